import java.util.NoSuchElementException;

/** What the tests share: counting wrong answers, and feeding texts and numbers to a tape. */
final class Due {
    interface Call {
        long answer();
    }

    interface Taken {
        boolean isTaken(int number);
    }

    private int wrong = 0;

    void same(String what, long due, long got) {
        if (due != got) {
            wrong++;
            System.out.println(what + " answered " + got + ", due is " + due);
        }
    }

    void yes(String what, boolean got) {
        same(what, 1, got ? 1 : 0);
    }

    void no(String what, boolean got) {
        same(what, 0, got ? 1 : 0);
    }

    void noSuchElement(String what, Call call) {
        yes(what + " throws NoSuchElementException", !isTold(call));
    }

    /** A number goes from least to most: the two are taken, those beyond them are not. */
    void goes(String what, int least, int most, Taken call) {
        yes(what + ": " + least + " is taken", call.isTaken(least));
        yes(what + ": " + most + " is taken", call.isTaken(most));
        no(what + ": " + (least - 1) + " is taken", call.isTaken(least - 1));
        no(what + ": " + (most + 1) + " is taken", call.isTaken(most + 1));
        no(what + ": the least int is taken", call.isTaken(Integer.MIN_VALUE));
        no(what + ": the greatest int is taken", call.isTaken(Integer.MAX_VALUE));
    }

    void finish(String test) {
        System.out.println(test + ": " + (wrong == 0 ? "all answers are as due" : wrong + " answers are not as due"));
        if (wrong != 0) {
            System.exit(1);
        }
    }

    /** Whether a call answers, and does not throw a NoSuchElementException. */
    static boolean isTold(Call call) {
        try {
            call.answer();
            return true;
        } catch (NoSuchElementException e) {
            return false;
        }
    }

    /** Puts the bytes of a text, and nothing else, behind an empty tape. */
    static void tape(FruitHalls x, String text) {
        byte[] bytes = new byte[text.length()];
        for (int i = 0; i < bytes.length; i++) {
            bytes[i] = (byte) text.charAt(i);
        }
        tape(x, bytes);
    }

    static void tape(FruitHalls x, byte[] bytes) {
        for (int from = 0; from < bytes.length; from += 20) {
            x.feed(number(bytes, from), number(bytes, from + 4), number(bytes, from + 8),
                    number(bytes, from + 12), number(bytes, from + 16));
        }
        x.end(bytes.length);
    }

    static int rules(FruitHalls x, String text) {
        tape(x, text);
        return x.rules();
    }

    /** p and f of each hall in turn. */
    static int cars(FruitHalls x, int n, int... terms) {
        byte[] bytes = new byte[2 * terms.length];
        for (int i = 0; i < terms.length; i++) {
            bytes[2 * i] = (byte) (terms[i] >> 8);
            bytes[2 * i + 1] = (byte) terms[i];
        }
        tape(x, bytes);
        return x.cars(n);
    }

    /** Buyers 0 and 1 want all of a grade in hall 0 at one limit, so that each lot brings just that; then an auction. */
    static int sellAt(FruitHalls x, int grade, int price) {
        for (int b = 0; b < 2; b++) {
            x.money(b, 1000000);
            x.want(b, 0, grade, 5000, price);
        }
        int sold = x.auction(0);
        x.want(0, 0, grade, 0, 0);
        x.want(1, 0, grade, 0, 0);
        return sold;
    }

    static void passDays(FruitHalls x, int days) {
        for (int i = 0; i < days; i++) {
            x.next();
        }
    }

    private static int number(byte[] bytes, int from) {
        int number = 0;
        for (int i = from; i < from + 4; i++) {
            number = number << 8 | (i < bytes.length ? bytes[i] & 255 : 0);
        }
        return number;
    }
}
