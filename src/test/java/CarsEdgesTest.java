/** Part 4 of the document, and promises 20 and 21: each sentence that names a boundary, with a test of its own. */
public final class CarsEdgesTest {
    private static final Due due = new Due();

    public static void main(String[] args) {
        notSoManyBytes();
        oneTo40Cars();
        twoBytesTheHigherFirst();
        firstIsWorthP();
        eachFurtherOneFLess();
        zeroAtLeast();
        allWorthsTogetherAreMost();
        greatestWorths();
        ofLikeOnesTheMostToHall0();
        thenToHall1AndSoOn();
        whatIsWorthNothingGoesToHall0();
        latestThatWasNotNone();
        aheadOfAny();
        tapeIsEmptyThen();
        due.finish("CarsEdgesTest");
    }

    /** Cars on a new object: all worths together, and how many go to each HALL. */
    private static void go(int n, int[] terms, int worth, int... sent) {
        FruitHalls x = new FruitHalls();
        String shown = n + " cars by " + java.util.Arrays.toString(terms);
        due.same(shown, worth, Due.cars(x, n, terms));
        int together = 0;
        for (int hall = 0; hall < 4; hall++) {
            due.same(shown + ": sent(" + hall + ")", sent[hall], x.sent(hall));
            together += x.sent(hall);
        }
        due.same(shown + ": all go", n, together);
    }

    private static int[] terms(int... terms) {
        return terms;
    }

    /** "16 bytes .. NONE: not so many bytes", read as: neither fewer nor more. */
    private static void notSoManyBytes() {
        for (int bytes = 0; bytes <= 200; bytes++) {
            FruitHalls x = new FruitHalls();
            Due.tape(x, new byte[bytes]);
            due.same("cars(1) of " + bytes + " bytes", bytes == 16 ? 0 : -1, x.cars(1));
            due.same("sent(0) of " + bytes + " bytes", bytes == 16 ? 1 : -1, x.sent(0));
        }
    }

    /** "n CARS (1 to 40) .. NONE: .. another n". */
    private static void oneTo40Cars() {
        for (int n = -3; n <= 44; n++) {
            FruitHalls x = new FruitHalls();
            boolean isTaken = n >= 1 && n <= 40;
            due.same("cars(" + n + ")", isTaken ? 3 * n : -1, Due.cars(x, n, 0, 0, 0, 0, 3, 0, 0, 0));
            due.same("sent(2) of " + n, isTaken ? n : -1, x.sent(2));
        }
    }

    /** "for each HALL p and f, two bytes each (the higher one first". */
    private static void twoBytesTheHigherFirst() {
        for (int place = 0; place < 16; place++) {
            byte[] bytes = new byte[16];
            bytes[place] = (byte) 200;
            FruitHalls x = new FruitHalls();
            Due.tape(x, bytes);
            int p = place % 4 == 0 ? 200 * 256 : place % 4 == 1 ? 200 : 0;
            due.same("byte " + place, p, x.cars(1));
            due.same("byte " + place + ", its HALL", 1, x.sent(p > 0 ? place / 4 : 0));
        }
        for (int hall = 0; hall < 4; hall++) {
            int[] terms = new int[8];
            terms[2 * hall] = 1000;
            terms[2 * hall + 1] = 258;
            FruitHalls x = new FruitHalls();
            due.same("f of two bytes", 1000 + 742 + 484, Due.cars(x, 3, terms));
            due.same("in HALL " + hall, 3, x.sent(hall));
        }
    }

    /** "the first one in a HALL is worth p". */
    private static void firstIsWorthP() {
        go(1, terms(7, 5, 0, 0, 0, 0, 0, 0), 7, 1, 0, 0, 0);
        go(1, terms(7, 9, 8, 9, 0, 0, 0, 0), 8, 0, 1, 0, 0);
        go(4, terms(1, 1, 2, 2, 3, 3, 4, 4), 10, 1, 1, 1, 1);
    }

    /** "each further one f less than the one ahead". */
    private static void eachFurtherOneFLess() {
        int[] falling = {0, 0, 0, 0, 0, 0, 10, 3};
        go(1, falling, 10, 0, 0, 0, 1);
        go(2, falling, 17, 0, 0, 0, 2);
        go(3, falling, 21, 0, 0, 0, 3);
        go(4, falling, 22, 0, 0, 0, 4);
        go(5, falling, 22, 1, 0, 0, 4);
        go(40, terms(40, 1, 0, 0, 0, 0, 0, 0), 820, 40, 0, 0, 0);
        go(40, terms(0, 0, 40, 1, 0, 0, 0, 0), 820, 0, 40, 0, 0);
        go(40, terms(0, 0, 39, 1, 0, 0, 0, 0), 780, 1, 39, 0, 0);
        go(40, terms(9, 0, 0, 0, 0, 0, 0, 0), 360, 40, 0, 0, 0);
    }

    /** "0 at least": f may be p, or more than p, or just less. */
    private static void zeroAtLeast() {
        go(2, terms(0, 0, 6, 6, 0, 0, 0, 0), 6, 1, 1, 0, 0);
        go(2, terms(0, 0, 6, 7, 0, 0, 0, 0), 6, 1, 1, 0, 0);
        go(2, terms(0, 0, 6, 5, 0, 0, 0, 0), 7, 0, 2, 0, 0);
        go(3, terms(0, 0, 6, 5, 0, 0, 0, 0), 7, 1, 2, 0, 0);
        go(3, terms(6, 65535, 0, 65535, 0, 0, 0, 0), 6, 3, 0, 0, 0);
        go(40, terms(5, 9, 5, 9, 5, 9, 5, 9), 20, 37, 1, 1, 1);
    }

    /** "They go so that all worths together are most". */
    private static void allWorthsTogetherAreMost() {
        go(3, terms(10, 9, 6, 1, 5, 5, 0, 0), 21, 1, 2, 0, 0);
        go(6, terms(10, 3, 9, 1, 0, 9, 9, 0), 55, 1, 1, 0, 4);
        go(5, terms(100, 60, 90, 20, 80, 40, 70, 70), 410, 1, 2, 1, 1);
    }

    private static void greatestWorths() {
        go(40, terms(65535, 0, 65535, 0, 65535, 0, 65535, 0), 2621400, 40, 0, 0, 0);
        go(40, terms(0, 0, 0, 0, 0, 0, 65535, 0), 2621400, 0, 0, 0, 40);
        go(4, terms(65535, 65535, 65535, 65535, 65535, 65535, 65535, 65535), 262140, 1, 1, 1, 1);
        go(5, terms(65535, 65535, 65535, 65535, 65535, 65535, 65535, 65535), 262140, 2, 1, 1, 1);
        go(2, terms(0, 0, 65535, 65534, 0, 0, 0, 0), 65536, 0, 2, 0, 0);
    }

    /** "of like ones the most go to HALL 0". */
    private static void ofLikeOnesTheMostToHall0() {
        go(1, terms(5, 1, 5, 1, 5, 1, 5, 1), 5, 1, 0, 0, 0);
        go(7, terms(5, 0, 5, 0, 5, 0, 5, 0), 35, 7, 0, 0, 0);
        go(3, terms(5, 0, 6, 1, 0, 0, 0, 0), 16, 2, 1, 0, 0);
        go(3, terms(6, 1, 5, 0, 0, 0, 0, 0), 16, 2, 1, 0, 0);
        go(2, terms(6, 1, 5, 0, 0, 0, 0, 0), 11, 2, 0, 0, 0);
    }

    /** "then to HALL 1, and so on". */
    private static void thenToHall1AndSoOn() {
        int[] alike = {5, 1, 5, 1, 5, 1, 5, 1};
        go(2, alike, 10, 1, 1, 0, 0);
        go(3, alike, 15, 1, 1, 1, 0);
        go(4, alike, 20, 1, 1, 1, 1);
        go(5, alike, 24, 2, 1, 1, 1);
        go(6, alike, 28, 2, 2, 1, 1);
        go(7, alike, 32, 2, 2, 2, 1);
        go(8, alike, 36, 2, 2, 2, 2);
        go(3, terms(1, 0, 5, 0, 5, 0, 5, 0), 15, 0, 3, 0, 0);
        go(3, terms(1, 0, 2, 0, 5, 0, 5, 0), 15, 0, 0, 3, 0);
        go(3, terms(5, 5, 5, 5, 5, 0, 5, 0), 15, 1, 1, 1, 0);
        go(4, terms(5, 5, 5, 5, 5, 0, 5, 0), 20, 1, 1, 2, 0);
    }

    private static void whatIsWorthNothingGoesToHall0() {
        go(3, terms(0, 0, 0, 0, 0, 0, 0, 0), 0, 3, 0, 0, 0);
        go(40, terms(0, 7, 0, 0, 0, 7, 0, 0), 0, 40, 0, 0, 0);
        go(5, terms(1, 1, 0, 0, 0, 0, 1, 1), 2, 4, 0, 0, 1);
    }

    private static void isSent(FruitHalls x, String when, int... halls) {
        for (int hall = 0; hall < 4; hall++) {
            due.same("sent(" + hall + ") " + when, halls[hall], x.sent(hall));
        }
    }

    /** Promise 21: "of the latest cars() that was not NONE". */
    private static void latestThatWasNotNone() {
        FruitHalls x = new FruitHalls();
        Due.cars(x, 3, 9, 0, 0, 0, 0, 0, 0, 0);
        isSent(x, "of 3", 3, 0, 0, 0);
        Due.cars(x, 2, 0, 0, 0, 0, 9, 0, 0, 0);
        isSent(x, "of 2", 0, 0, 2, 0);
        due.same("41 cars", -1, Due.cars(x, 41, 0, 0, 0, 0, 0, 0, 9, 0));
        isSent(x, "behind 41", 0, 0, 2, 0);
        due.same("0 cars", -1, Due.cars(x, 0, 0, 0, 0, 0, 0, 0, 9, 0));
        isSent(x, "behind 0", 0, 0, 2, 0);
        due.same("cars of no bytes", -1, x.cars(5));
        isSent(x, "behind no bytes", 0, 0, 2, 0);
        due.same("worths of 0 are not NONE", 0, Due.cars(x, 5, 0, 0, 0, 0, 0, 0, 0, 0));
        isSent(x, "worth nothing", 5, 0, 0, 0);
    }

    /** Promise 21: "NONE: .. ahead of any". */
    private static void aheadOfAny() {
        FruitHalls x = new FruitHalls();
        isSent(x, "ahead of any", -1, -1, -1, -1);
        x.cars(1);
        Due.cars(x, 41, 1, 1, 1, 1, 1, 1, 1, 1);
        isSent(x, "behind NONE alone", -1, -1, -1, -1);
        Due.cars(x, 1, 1, 1, 1, 1, 1, 1, 1, 1);
        isSent(x, "behind one", 1, 0, 0, 0);
    }

    /** Promise 4: "The tape (empty then, here and below)". */
    private static void tapeIsEmptyThen() {
        FruitHalls x = new FruitHalls();
        Due.cars(x, 1, 1, 1, 1, 1, 1, 1, 1, 1);
        due.same("bytes behind cars", 0, x.count(4));
        due.same("cars at once again", -1, x.cars(1));
        Due.cars(x, 41, 1, 1, 1, 1, 1, 1, 1, 1);
        due.same("bytes behind another n", 0, x.count(4));
        x.feed(0, 0, 0, 0, 0);
        x.end(15);
        due.same("15 bytes", -1, x.cars(1));
        due.same("bytes behind too few", 0, x.count(4));
        x.feed(0, 0, 0, 0, 0);
        due.same("20 bytes", -1, x.cars(1));
        due.same("bytes behind too many", 0, x.count(4));
        due.same("feed begins at 0", 20, x.feed(0, 0, 0, 0, 0));
    }
}
