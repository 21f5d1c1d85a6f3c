/** Promises 1 to 3, and 22 of the tape: each sentence that names a boundary, with a test of its own. */
public final class TapeEdgesTest {
    private static final Due due = new Due();

    public static void main(String[] args) {
        noLotsNoSales();
        rulesAsWithoutAText();
        dayZero();
        emptyTape();
        highestByteFirstAtEachPlace();
        negativeNumbersAreBytesToo();
        twentyComeBehindTheTape();
        moreThanTwoHundred();
        noneComeIfItWouldHaveMore();
        firstBytesAlone();
        notSoMany();
        belowZero();
        endThatIsRefusedChangesNothing();
        whatIsCutIsGone();
        the512thCallAnswers();
        due.finish("TapeEdgesTest");
    }

    /** Promise 1: "No LOTS, SALES". */
    private static void noLotsNoSales() {
        FruitHalls x = new FruitHalls();
        due.same("new: LOTS", 0, x.count(1));
        due.same("new: SALES", 0, x.count(2));
        for (int what = 0; what <= 6; what++) {
            int w = what;
            due.noSuchElement("new: about(0, " + w + ")", () -> x.about(0, w));
            due.noSuchElement("new: sale(0, " + w + ")", () -> x.sale(0, w));
        }
        for (int hall = 0; hall < 4; hall++) {
            due.same("new: auction(" + hall + ")", 0, x.auction(hall));
            due.same("new: sent(" + hall + ")", -1, x.sent(hall));
            for (int k = 0; k < 16; k++) {
                due.same("new: wire", 0, x.wire(hall, k / 4, 0, k % 4));
            }
        }
        for (int grower = 0; grower < 8; grower++) {
            due.same("new: pay(" + grower + ", 0)", 0, x.pay(grower, 0));
        }
        for (int mark = 0; mark < 6; mark++) {
            int m = mark;
            due.noSuchElement("new: worth(" + m + ", 0, 0)", () -> x.worth(m, 0, 0));
            due.noSuchElement("new: worth(" + m + ", 999, 1)", () -> x.worth(m, 999, 1));
        }
        due.same("new: pool(0)", 0, x.pool(0));
        due.same("new: pool(999)", 0, x.pool(999));
        due.no("new: reject(0)", x.reject(0));
        due.same("new: the first LOT", 0, x.lot(0, 0, 0, 1, 0));
    }

    /** Promise 1: "RULES as without a text", and Terms: "What is not told: reserve 0, part 1, rot 0, loss pool". */
    private static void rulesAsWithoutAText() {
        FruitHalls x = new FruitHalls();
        due.same("new: RULES", 0, x.count(3));
        x.money(0, 1000);
        for (int grade = 0; grade < 4; grade++) {
            x.lot(grade, 0, grade, 3 + grade, 0);
            x.want(0, 0, grade, 100, 1);
        }
        x.next();
        for (int grade = 0; grade < 4; grade++) {
            due.same("new: rot 0, lot " + grade, 3 + grade, x.about(grade, 3));
        }
        due.same("new: reserve 0", 4, x.auction(0));
        for (int grade = 0; grade < 4; grade++) {
            due.same("new: part 1 of grade " + grade, 3 + grade, x.pay(grade, 1));
        }
        x.lot(0, 0, 0, 10, 0);
        x.next();
        Due.sellAt(x, 0, 9);
        x.reject(4);
        Due.sellAt(x, 0, 5);
        due.same("sold again", 5, x.sale(5, 4));
        due.same("new: loss pool", 0, x.sale(4, 6));
    }

    /** Promise 1: "DAY 0". */
    private static void dayZero() {
        FruitHalls x = new FruitHalls();
        due.same("new: DAY", 0, x.count(0));
        x.lot(1, 0, 0, 1, 0);
        x.lot(0, 0, 0, 1, 0);
        Due.sellAt(x, 0, 1);
        due.same("a SALE of DAY 0", 0, x.sale(0, 2));
        due.same("DAY 0 begins with GROWER 0", 1, x.sale(0, 0));
        due.same("the next DAY is 1", 1, x.next());
    }

    /** Promise 1: "an empty tape". */
    private static void emptyTape() {
        FruitHalls x = new FruitHalls();
        due.same("new: bytes of the tape", 0, x.count(4));
        due.no("new: end(1)", x.end(1));
        due.yes("new: end(0)", x.end(0));
        due.same("new: rules()", 0, x.rules());
        due.same("new: fault()", 0, x.fault());
        due.same("new: cars(1) has no bytes", -1, x.cars(1));
        due.same("new: feed", 20, x.feed(0, 0, 0, 0, 0));
    }

    /** Promise 2: "of each number the highest first": one byte that is no TOKEN tells its place. */
    private static void highestByteFirstAtEachPlace() {
        for (int place = 0; place < 20; place++) {
            int[] n = {0x20202020, 0x20202020, 0x20202020, 0x20202020, 0x20202020};
            int shift = 24 - 8 * (place % 4);
            n[place / 4] = n[place / 4] & ~(255 << shift) | '!' << shift;
            FruitHalls x = new FruitHalls();
            due.same("feed", 20, x.feed(n[0], n[1], n[2], n[3], n[4]));
            due.same("byte " + place + " of a feed", -1 - place, x.rules());
        }
    }

    /** Promise 2: bytes go from 0 to 255, the sign of a number makes no difference. */
    private static void negativeNumbersAreBytesToo() {
        for (int value = 0; value < 256; value++) {
            FruitHalls x = new FruitHalls();
            int other = 255 - value;
            x.feed(value << 24 | other << 16, 0, 0, 0, -1);
            x.end(16);
            due.same("bytes " + value + ", " + other, 256 * value + other, x.cars(1));
        }
        FruitHalls x = new FruitHalls();
        due.same("feed of -1", 20, x.feed(-1, -1, -1, -1, -1));
        x.end(16);
        due.same("two bytes of 255", 65535, x.cars(1));
    }

    /** Promise 2: "Twenty bytes come behind the tape": .. how many it has. */
    private static void twentyComeBehindTheTape() {
        for (int place = 0; place < 200; place++) {
            StringBuilder text = new StringBuilder(" ".repeat(200));
            text.setCharAt(place, '!');
            FruitHalls x = new FruitHalls();
            due.same("byte " + place + " of a tape", -1 - place, Due.rules(x, text.toString()));
        }
        FruitHalls x = new FruitHalls();
        x.feed(0x20202020, 0x20202020, 0x20202020, 0x20202020, 0x20202020);
        x.end(7);
        due.same("feed behind 7 bytes", 27, x.feed(0x20202020, '!', 0, 0, 0));
        due.same("they come at place 7", -1 - (7 + 4), x.rules());
    }

    /** Promise 2: "NONE .. if it would have more than 200". */
    private static void moreThanTwoHundred() {
        for (int bytes = 178; bytes <= 200; bytes++) {
            FruitHalls x = full();
            x.end(bytes);
            int answer = bytes <= 180 ? bytes + 20 : -1;
            due.same("feed at " + bytes + " bytes", answer, x.feed(0, 0, 0, 0, 0));
            due.same("bytes then", bytes <= 180 ? bytes + 20 : bytes, x.count(4));
        }
    }

    /** Promise 2: "and none come". */
    private static void noneComeIfItWouldHaveMore() {
        FruitHalls x = full();
        due.same("feed of a full tape", -1, x.feed(-1, -1, -1, -1, -1));
        due.same("bytes of it", 200, x.count(4));
        due.same("all are blanks still", 0, x.rules());
        FruitHalls y = full();
        y.end(181);
        due.same("feed at 181", -1, y.feed(-1, -1, -1, -1, -1));
        due.no("end(182)", y.end(182));
        due.same("all 181 are blanks still", 0, y.rules());
    }

    /** Promise 3: "The tape has its first n bytes alone: true". */
    private static void firstBytesAlone() {
        for (int n = 200; n >= 0; n--) {
            FruitHalls x = full();
            due.yes("end(" + n + ") of 200", x.end(n));
            due.same("bytes behind end(" + n + ")", n, x.count(4));
        }
        FruitHalls x = new FruitHalls();
        x.feed(0x726f7420, 0x35303b21, 0, 0, 0);
        due.yes("end(7)", x.end(7));
        due.same("'rot 50;' alone", 1, x.rules());
        x.feed(0x726f7420, 0x35303b21, 0, 0, 0);
        x.end(6);
        due.same("'rot 50' alone", -1 - 6, x.rules());
        due.same("its end can't come", 2, x.fault());
    }

    /** Promise 3: "false, if it has not so many". */
    private static void notSoMany() {
        FruitHalls x = new FruitHalls();
        due.no("end(1) of 0", x.end(1));
        x.feed(0, 0, 0, 0, 0);
        due.no("end(21) of 20", x.end(21));
        due.yes("end(20) of 20", x.end(20));
        due.yes("end(19) of 20", x.end(19));
        due.no("end(20) of 19", x.end(20));
        due.yes("end(19) of 19", x.end(19));
        due.no("end(greatest)", x.end(Integer.MAX_VALUE));
        FruitHalls y = full();
        due.yes("end(200) of 200", y.end(200));
        due.no("end(201) of 200", y.end(201));
    }

    /** Promise 3: "or n is below 0". */
    private static void belowZero() {
        FruitHalls x = full();
        due.no("end(-1)", x.end(-1));
        due.no("end(least)", x.end(Integer.MIN_VALUE));
        due.yes("end(0)", x.end(0));
        due.no("end(-1) of an empty tape", x.end(-1));
        due.yes("end(0) of an empty tape", x.end(0));
    }

    private static void endThatIsRefusedChangesNothing() {
        FruitHalls x = new FruitHalls();
        Due.tape(x, "rot 7;");
        due.no("end(7) of 6", x.end(7));
        due.no("end(-1)", x.end(-1));
        due.same("bytes stay", 6, x.count(4));
        due.same("the text stays", 1, x.rules());
    }

    /** Promise 3: the bytes behind n do not come back. */
    private static void whatIsCutIsGone() {
        FruitHalls x = new FruitHalls();
        Due.tape(x, "rot 7;!");
        x.end(5);
        due.no("end(7) behind end(5)", x.end(7));
        due.same("feed behind end(5)", 25, x.feed(0x3b202020, 0x20202020, 0x20202020, 0x20202020, 0x20202020));
        due.same("'rot 7' and ';'", 1, x.rules());
    }

    /** "An object is used for at most 512 calls": the last of them still answers. */
    private static void the512thCallAnswers() {
        FruitHalls x = new FruitHalls();
        for (int call = 1; call <= 511; call++) {
            due.same("call " + call, call, x.next());
        }
        due.same("call 512", 512, x.next());
    }

    /** A tape of 200 blanks. */
    private static FruitHalls full() {
        FruitHalls x = new FruitHalls();
        for (int i = 0; i < 10; i++) {
            x.feed(0x20202020, 0x20202020, 0x20202020, 0x20202020, 0x20202020);
        }
        return x;
    }
}
