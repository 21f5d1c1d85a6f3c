import java.util.NoSuchElementException;

/** What the tests share: counting wrong answers, and feeding texts and numbers to a tape. */
final class Due {
    interface Call {
        long answer();
    }

    private int wrong = 0;

    void same(String what, long due, long got) {
        if (due != got) {
            wrong++;
            System.out.println(what + " answered " + got + ", due is " + due);
        }
    }

    void yes(String what, boolean got) {
        same(what, 1, got ? 1 : 0);
    }

    void no(String what, boolean got) {
        same(what, 0, got ? 1 : 0);
    }

    void noSuchElement(String what, Call call) {
        boolean threw = false;
        try {
            call.answer();
        } catch (NoSuchElementException e) {
            threw = true;
        }
        yes(what + " throws NoSuchElementException", threw);
    }

    void finish(String test) {
        System.out.println(test + ": " + (wrong == 0 ? "all answers are as due" : wrong + " answers are not as due"));
        if (wrong != 0) {
            System.exit(1);
        }
    }

    /** Puts the bytes of a text, and nothing else, behind an empty tape. */
    static void tape(FruitHalls x, String text) {
        byte[] bytes = new byte[text.length()];
        for (int i = 0; i < bytes.length; i++) {
            bytes[i] = (byte) text.charAt(i);
        }
        tape(x, bytes);
    }

    static void tape(FruitHalls x, byte[] bytes) {
        for (int from = 0; from < bytes.length; from += 20) {
            x.feed(number(bytes, from), number(bytes, from + 4), number(bytes, from + 8),
                    number(bytes, from + 12), number(bytes, from + 16));
        }
        x.end(bytes.length);
    }

    static int rules(FruitHalls x, String text) {
        tape(x, text);
        return x.rules();
    }

    /** p and f of each hall in turn. */
    static int cars(FruitHalls x, int n, int... terms) {
        byte[] bytes = new byte[2 * terms.length];
        for (int i = 0; i < terms.length; i++) {
            bytes[2 * i] = (byte) (terms[i] >> 8);
            bytes[2 * i + 1] = (byte) terms[i];
        }
        tape(x, bytes);
        return x.cars(n);
    }

    private static int number(byte[] bytes, int from) {
        int number = 0;
        for (int i = from; i < from + 4; i++) {
            number = number << 8 | (i < bytes.length ? bytes[i] & 255 : 0);
        }
        return number;
    }
}
