/**
 * Promises 6 to 9, 11, 12 and 14 to 22, and Terms: from where to where each number goes. The first lines of each test
 * name a number of a call; it is given at its two ends and just beyond them.
 */
public final class NumbersEdgesTest {
    private static final Due due = new Due();

    public static void main(String[] args) {
        lotNumbers();
        atMostAHundredLots();
        lotsAreNumberedFromZero();
        moneyNumbers();
        moneyIsZeroAtFirst();
        moneySetsWhatIsLeftToo();
        wantNumbers();
        wantsAreZeroAtFirst();
        wantInThePlaceOfTheOneAhead();
        hallOfAnAuction();
        aboutNumbers();
        saleNumbers();
        rejectNumbers();
        leftAndWantedNumbers();
        payNumbers();
        poolTakesAnyDay();
        worthNumbers();
        wireNumbers();
        carsAndSentNumbers();
        countNumbers();
        lastDay();
        lastDayChangesNothing();
        rotIsCut();
        rotOfEachNumberOfBoxes();
        oneBoxNeverRots();
        due.finish("NumbersEdgesTest");
    }

    /** Two growers' lots, of grades 0 and 3, one of them sold on day 1. */
    private static FruitHalls oneSale() {
        FruitHalls x = new FruitHalls();
        x.next();
        x.lot(3, 4, 3, 10, 0);
        Due.sellAt(x, 3, 6);
        x.lot(5, 5, 0, 20, 2);
        return x;
    }

    /** Promise 6: "NONE: .. a number is not as told"; "a GROWER, MARK, GRADE, BOXES (1 to 500), the HALL". */
    private static void lotNumbers() {
        due.goes("lot, GROWER", 0, 7, n -> isLot(n, 0, 0, 1, 0));
        due.goes("lot, MARK", 0, 5, n -> isLot(0, n, 0, 1, 0));
        due.goes("lot, GRADE", 0, 3, n -> isLot(0, 0, n, 1, 0));
        due.goes("lot, BOXES", 1, 500, n -> isLot(0, 0, 0, n, 0));
        due.goes("lot, HALL", 0, 3, n -> isLot(0, 0, 0, 1, n));
        due.no("lot, all wrong", isLot(-1, -1, -1, -1, -1));
        due.no("lot, the last wrong behind the greatest right ones", isLot(7, 5, 3, 500, 4));
        due.no("lot, the first wrong ahead of the greatest right ones", isLot(8, 5, 3, 500, 3));
    }

    private static boolean isLot(int grower, int mark, int grade, int boxes, int hall) {
        FruitHalls x = new FruitHalls();
        int answer = x.lot(grower, mark, grade, boxes, hall);
        due.same("LOTS then", answer + 1, x.count(1));
        if (answer == 0) {
            int[] told = {grower, mark, grade, boxes, hall, 0, -1};
            for (int what = 0; what < told.length; what++) {
                due.same("about(0, " + what + ")", told[what], x.about(0, what));
            }
        }
        return answer == 0;
    }

    /** Promise 6: "NONE: there are 100". */
    private static void atMostAHundredLots() {
        FruitHalls x = new FruitHalls();
        for (int k = 0; k < 99; k++) {
            x.lot(0, 0, 0, 1, 0);
        }
        due.same("a wrong one ahead of the hundredth", -1, x.lot(0, 0, 0, 0, 0));
        due.same("the hundredth", 99, x.lot(7, 5, 3, 500, 3));
        due.same("LOTS", 100, x.count(1));
        due.same("the hundred and first", -1, x.lot(0, 0, 0, 1, 0));
        due.same("LOTS stay", 100, x.count(1));
        due.same("the hundredth stays", 500, x.about(99, 3));
        due.noSuchElement("about(100, 0)", () -> x.about(100, 0));
        due.same("100 SOLD do not make room", 99, Due.sellAt(x, 0, 1));
        due.same("one more then", -1, x.lot(0, 0, 0, 1, 0));
    }

    /** "LOTS 0, 1, ..": a refused one takes no number. */
    private static void lotsAreNumberedFromZero() {
        FruitHalls x = new FruitHalls();
        due.same("the first", 0, x.lot(0, 0, 0, 1, 0));
        due.same("a refused one", -1, x.lot(0, 0, 0, 501, 0));
        due.same("the second", 1, x.lot(0, 0, 0, 1, 0));
        Due.sellAt(x, 0, 1);
        due.same("the third, behind SALES", 2, x.lot(0, 0, 0, 1, 0));
    }

    /** Promise 7: "false, if they are not as told"; "MONEY for each DAY (0 to 1000000 cents". */
    private static void moneyNumbers() {
        due.goes("money, BUYER", 0, 9, n -> isMoney(n, 5));
        due.goes("money, cents", 0, 1000000, n -> isMoney(3, n));
    }

    private static boolean isMoney(int buyer, int cents) {
        FruitHalls x = new FruitHalls();
        for (int b = 0; b < 10; b++) {
            x.money(b, 77);
        }
        boolean taken = x.money(buyer, cents);
        for (int b = 0; b < 10; b++) {
            due.same("left(" + b + ")", taken && b == buyer ? cents : 77, x.left(b));
        }
        x.next();
        for (int b = 0; b < 10; b++) {
            due.same("left(" + b + ") on the next DAY", taken && b == buyer ? cents : 77, x.left(b));
        }
        return taken;
    }

    /** "0 at first". */
    private static void moneyIsZeroAtFirst() {
        FruitHalls x = new FruitHalls();
        for (int b = 0; b < 10; b++) {
            due.same("left(" + b + ") at first", 0, x.left(b));
        }
        x.next();
        due.same("left(0) on the next DAY", 0, x.left(0));
        x.lot(0, 0, 0, 1, 0);
        x.want(0, 0, 0, 1, 1);
        due.same("without MONEY none bids", 0, x.auction(0));
        x.money(0, 1);
        due.same("with a cent one does", 1, x.auction(0));
        due.same("left(0) of a cent", 0, x.left(0));
    }

    /** Promise 7: "(what is LEFT, too)", be it more or less than was LEFT; "when a DAY ends all is LEFT again". */
    private static void moneySetsWhatIsLeftToo() {
        FruitHalls x = new FruitHalls();
        x.money(0, 100);
        x.want(0, 0, 0, 50, 2);
        x.lot(0, 0, 0, 30, 0);
        x.auction(0);
        due.same("LEFT of 100", 70, x.left(0));
        x.money(0, 100);
        due.same("the same MONEY again", 100, x.left(0));
        x.money(0, 60);
        due.same("less of it", 60, x.left(0));
        due.no("MONEY that is not as told", x.money(0, 1000001));
        due.same("leaves it", 60, x.left(0));
        x.lot(0, 0, 0, 20, 0);
        x.auction(0);
        due.same("LEFT of 60", 40, x.left(0));
        x.next();
        due.same("all is LEFT again", 60, x.left(0));
    }

    /** Promise 8: "false, if they are not as told"; "BOXES (0 to 5000), a LIMIT (0 to 9999 cents a BOX)". */
    private static void wantNumbers() {
        due.goes("want, BUYER", 0, 9, n -> isWant(n, 1, 2, 30, 4));
        due.goes("want, HALL", 0, 3, n -> isWant(1, n, 2, 30, 4));
        due.goes("want, GRADE", 0, 3, n -> isWant(1, 2, n, 30, 4));
        due.goes("want, BOXES", 0, 5000, n -> isWant(1, 2, 3, n, 4));
        due.goes("want, LIMIT", 0, 9999, n -> isWant(1, 2, 3, 30, n));
    }

    /** Looks at all other WANTS, too, so that none is held in another's place. */
    private static boolean isWant(int buyer, int hall, int grade, int boxes, int limit) {
        FruitHalls x = new FruitHalls();
        boolean taken = x.want(buyer, hall, grade, boxes, limit);
        for (int k = 0; k < 160; k++) {
            boolean here = k / 16 == buyer && k / 4 % 4 == hall && k % 4 == grade;
            due.same("wanted(" + k / 16 + ", " + k / 4 % 4 + ", " + k % 4 + ")",
                    taken && here ? boxes : 0, x.wanted(k / 16, k / 4 % 4, k % 4));
        }
        if (taken && boxes > 0) {
            x.money(buyer, 1000000);
            x.lot(0, 0, grade, Math.min(boxes, 100), hall);
            due.same("bids with LIMIT " + limit, limit >= 1 ? 1 : 0, x.auction(hall));
        }
        return taken;
    }

    /** "both 0 at first". */
    private static void wantsAreZeroAtFirst() {
        FruitHalls x = new FruitHalls();
        for (int k = 0; k < 160; k++) {
            due.same("wanted at first", 0, x.wanted(k / 16, k / 4 % 4, k % 4));
        }
        x.money(0, 1000000);
        x.lot(0, 0, 0, 1, 0);
        due.same("none bids at first", 0, x.auction(0));
    }

    /** Promise 8: "(in the place of what is left of the one ahead)"; "What is bought lessens the WANT's BOXES". */
    private static void wantInThePlaceOfTheOneAhead() {
        FruitHalls x = new FruitHalls();
        x.money(0, 1000);
        x.want(0, 0, 0, 10, 5);
        x.lot(0, 0, 0, 10, 0);
        x.auction(0);
        due.same("all BOXES are bought", 0, x.wanted(0, 0, 0));
        x.want(0, 0, 0, 4, 3);
        due.same("a WANT of 4", 4, x.wanted(0, 0, 0));
        due.no("one that is not as told", x.want(0, 0, 0, 5001, 5));
        due.no("one that is not as told", x.want(0, 0, 0, 9, 10000));
        due.same("leaves it", 4, x.wanted(0, 0, 0));
        x.lot(0, 0, 0, 5, 0);
        due.same("5 BOXES are too many", 0, x.auction(0));
        x.want(0, 0, 0, 5, 3);
        x.next();
        due.same("a DAY leaves it", 5, x.wanted(0, 0, 0));
        due.same("5 BOXES are not", 1, x.auction(0));
    }

    /** Promise 9: "NONE: no such HALL". */
    private static void hallOfAnAuction() {
        due.goes("auction, HALL", 0, 3, n -> {
            FruitHalls x = new FruitHalls();
            x.money(2, 1000);
            for (int hall = 0; hall < 4; hall++) {
                x.lot(0, 0, 0, 1, hall);
                x.want(2, hall, 0, 1, 1);
            }
            int sold = x.auction(n);
            due.same("SALES then", sold == 1 ? 1 : 0, x.count(2));
            if (sold == 1) {
                due.same("of the LOT there", n, x.sale(0, 0));
            } else {
                due.same("NONE", -1, sold);
            }
            return sold == 1;
        });
    }

    /** Promise 12: "NoSuchElementException: no such one, or another what". */
    private static void aboutNumbers() {
        FruitHalls x = oneSale();
        due.goes("about, LOT", 0, 1, n -> Due.isTold(() -> x.about(n, 0)));
        due.goes("about, what", 0, 6, n -> Due.isTold(() -> x.about(1, n)));
        due.noSuchElement("about(2, 7)", () -> x.about(2, 7));
        int[] sold = {3, 4, 3, 10, 0, 1, 0};
        int[] waiting = {5, 5, 0, 20, 2, 0, -1};
        for (int what = 0; what <= 6; what++) {
            due.same("about(0, " + what + ")", sold[what], x.about(0, what));
            due.same("about(1, " + what + ")", waiting[what], x.about(1, what));
        }
    }

    /** Promise 13: "NoSuchElementException: no such one, or another what". */
    private static void saleNumbers() {
        FruitHalls x = oneSale();
        due.goes("sale, SALE", 0, 0, n -> Due.isTold(() -> x.sale(n, 0)));
        due.goes("sale, what", 0, 6, n -> Due.isTold(() -> x.sale(0, n)));
        due.noSuchElement("sale(1, 7)", () -> x.sale(1, 7));
        int[] told = {0, 0, 1, 10, 6, -1, 0};
        for (int what = 0; what <= 6; what++) {
            due.same("sale(0, " + what + ")", told[what], x.sale(0, what));
        }
    }

    /** Promise 10: "false: no such one". */
    private static void rejectNumbers() {
        due.goes("reject, SALE", 0, 0, n -> {
            FruitHalls x = oneSale();
            boolean rejected = x.reject(n);
            due.same("the DAY of it", rejected ? 1 : -1, x.sale(0, 5));
            due.same("SOLD", rejected ? 0 : 1, x.about(0, 5));
            return rejected;
        });
    }

    /** Promises 14 and 15: "NONE: no such one", "NONE: no such ones". */
    private static void leftAndWantedNumbers() {
        FruitHalls x = new FruitHalls();
        due.goes("left, BUYER", 0, 9, n -> isNotNone(x.left(n)));
        due.goes("wanted, BUYER", 0, 9, n -> isNotNone(x.wanted(n, 0, 0)));
        due.goes("wanted, HALL", 0, 3, n -> isNotNone(x.wanted(0, n, 0)));
        due.goes("wanted, GRADE", 0, 3, n -> isNotNone(x.wanted(0, 0, n)));
    }

    private static boolean isNotNone(long answer) {
        if (answer < 0) {
            due.same("NONE", -1, answer);
        }
        return answer >= 0;
    }

    /** Promise 17: "NONE: no such one"; a DAY may be any, as promise 19 alone refuses one. */
    private static void payNumbers() {
        FruitHalls x = oneSale();
        due.goes("pay, GROWER", 0, 7, n -> isNotNone(x.pay(n, 1)));
        due.same("pay(8, -1)", -1, x.pay(8, -1));
        int[] days = {Integer.MIN_VALUE, -1, 0, 1, 2, 999, 1000, Integer.MAX_VALUE};
        for (int day : days) {
            due.same("pay(3, " + day + ")", day >= 1 ? 60 : 0, x.pay(3, day));
            due.same("pay(5, " + day + ")", 0, x.pay(5, day));
        }
    }

    /** Promise 16: it has no NONE. */
    private static void poolTakesAnyDay() {
        FruitHalls x = oneSale();
        int[] days = {Integer.MIN_VALUE, -1, 0, 1, 2, 999, 1000, Integer.MAX_VALUE};
        for (int day : days) {
            due.same("pool(" + day + ")", day >= 1 ? 60 : 0, x.pool(day));
        }
    }

    /** Promise 18: "NoSuchElementException: no such one, no SALE of it counts, or another what". */
    private static void worthNumbers() {
        FruitHalls x = new FruitHalls();
        for (int mark = 0; mark < 6; mark++) {
            x.lot(0, mark, 0, 1, 0);
        }
        Due.sellAt(x, 0, 4);
        due.goes("worth, MARK", 0, 5, n -> Due.isTold(() -> x.worth(n, 0, 0)));
        due.goes("worth, what", 0, 1, n -> Due.isTold(() -> x.worth(0, 0, n)));
        due.noSuchElement("worth(6, 0, 2)", () -> x.worth(6, 0, 2));
        FruitHalls y = oneSale();
        due.noSuchElement("no SALE of MARK 5", () -> y.worth(5, 1, 0));
        due.noSuchElement("no SALE of MARK 3", () -> y.worth(3, 1, 1));
        due.noSuchElement("no SALE of MARK 4 as of DAY 0", () -> y.worth(4, 0, 0));
        due.noSuchElement("no SALE of MARK 4 as of DAY -1", () -> y.worth(4, -1, 0));
        due.same("MARK 4 as of DAY 1", 0, y.worth(4, 1, 0));
        due.same("MARK 4 as of DAY 1, lower one", 1, y.worth(4, 1, 1));
        due.same("MARK 4 as of a DAY to come", 1, y.worth(4, 999, 1));
        y.reject(0);
        due.noSuchElement("no SALE of MARK 4 counts when it is REJECTED", () -> y.worth(4, 1, 0));
    }

    /** Promise 19: "NONE: no such ones (a DAY that is not 0 to 999, too), or another what"; "(0 without any)". */
    private static void wireNumbers() {
        FruitHalls x = oneSale();
        due.goes("wire, HALL", 0, 3, n -> isNotNone(x.wire(n, 3, 1, 0)));
        due.goes("wire, GRADE", 0, 3, n -> isNotNone(x.wire(0, n, 1, 0)));
        due.goes("wire, DAY", 0, 999, n -> isNotNone(x.wire(0, 3, n, 0)));
        due.goes("wire, what", 0, 3, n -> isNotNone(x.wire(0, 3, 1, n)));
        due.goes("wire without any, what", 0, 3, n -> isNotNone(x.wire(1, 1, 1, n)));
        int[] told = {1, 10, 6, 6};
        for (int what = 0; what < 4; what++) {
            due.same("wire(0, 3, 1, " + what + ")", told[what], x.wire(0, 3, 1, what));
            due.same("wire(0, 3, 0, " + what + ")", 0, x.wire(0, 3, 0, what));
            due.same("wire(0, 3, 2, " + what + ")", 0, x.wire(0, 3, 2, what));
            due.same("wire(1, 3, 1, " + what + ")", 0, x.wire(1, 3, 1, what));
            due.same("wire(0, 2, 1, " + what + ")", 0, x.wire(0, 2, 1, what));
        }
    }

    /** Promises 20 and 21: "n CARS (1 to 40)"; "NONE: .. another n"; "NONE: no such one". */
    private static void carsAndSentNumbers() {
        due.goes("cars, n", 1, 40, n -> isNotNone(Due.cars(new FruitHalls(), n, 1, 1, 1, 1, 1, 1, 1, 1)));
        FruitHalls x = new FruitHalls();
        Due.cars(x, 7, 9, 0, 0, 0, 0, 0, 0, 0);
        due.goes("sent, HALL", 0, 3, n -> isNotNone(x.sent(n)));
    }

    /** Promise 22: "NONE for another what". */
    private static void countNumbers() {
        FruitHalls x = oneSale();
        due.goes("count, what", 0, 4, n -> isNotNone(x.count(n)));
        due.same("DAY", 1, x.count(0));
        due.same("LOTS", 2, x.count(1));
        due.same("SALES", 1, x.count(2));
        due.same("RULES", 0, x.count(3));
        due.same("bytes", 0, x.count(4));
        x.reject(0);
        due.same("SALES, also when REJECTED", 1, x.count(2));
    }

    /** Promise 11: "NONE: it is 999". That DAY lies behind the 512th call, where the class keeps its word, too. */
    private static void lastDay() {
        FruitHalls x = new FruitHalls();
        for (int day = 1; day <= 999; day++) {
            due.same("next()", day, x.next());
            due.same("DAY", day, x.count(0));
        }
        due.same("next() on DAY 999", -1, x.next());
        due.same("DAY stays", 999, x.count(0));
        due.same("next() again", -1, x.next());
        x.lot(6, 0, 0, 1, 0);
        x.lot(7, 0, 0, 1, 0);
        Due.sellAt(x, 0, 3);
        due.same("DAY 999 MOD 8 begins with GROWER 7", 1, x.sale(0, 0));
        due.same("a SALE of DAY 999", 999, x.sale(0, 2));
        due.yes("reject(0)", x.reject(0));
        due.same("REJECTED on DAY 999", 999, x.sale(0, 5));
        due.same("wire of DAY 999", 1, x.wire(0, 0, 999, 0));
        due.same("wire of DAY 1000", -1, x.wire(0, 0, 1000, 0));
        due.same("pool(998)", 0, x.pool(998));
        due.same("pool(999)", 3, x.pool(999));
    }

    /** Promise 11: DAY 999 does not end, so nothing rots and no MONEY is LEFT again. */
    private static void lastDayChangesNothing() {
        FruitHalls x = new FruitHalls();
        Due.passDays(x, 998);
        Due.rules(x, "rot 50;");
        x.lot(0, 0, 0, 8, 0);
        x.lot(0, 0, 1, 8, 0);
        x.money(0, 100);
        x.want(0, 0, 0, 8, 1);
        due.same("DAY 998 ends", 999, x.next());
        due.same("4 BOXES are left", 4, x.about(0, 3));
        due.same("one is SOLD", 1, x.auction(0));
        due.same("LEFT", 96, x.left(0));
        due.same("DAY 999 does not", -1, x.next());
        due.same("4 BOXES stay", 4, x.about(1, 3));
        due.same("LEFT stays", 96, x.left(0));
        due.same("WANT stays", 4, x.wanted(0, 0, 0));
    }

    /** "each LOT that is WAITING loses BOXES times rot by 100, cut". */
    private static void rotIsCut() {
        FruitHalls x = new FruitHalls();
        Due.rules(x, "rot 1;");
        x.lot(0, 0, 0, 99, 0);
        x.lot(0, 0, 0, 100, 0);
        x.lot(0, 0, 0, 199, 0);
        x.lot(0, 0, 0, 200, 0);
        x.lot(0, 0, 0, 500, 0);
        x.next();
        int[] left = {99, 99, 198, 198, 495};
        for (int k = 0; k < left.length; k++) {
            due.same("rot 1, LOT " + k, left[k], x.about(k, 3));
        }
        x.next();
        due.same("99 stay on the next DAY, too", 99, x.about(1, 3));
        due.same("495 lose 4.95, cut", 491, x.about(4, 3));
    }

    private static void rotOfEachNumberOfBoxes() {
        int[] rots = {0, 1, 33, 49, 50};
        for (int rot : rots) {
            for (int from = 1; from <= 500; from += 100) {
                FruitHalls x = new FruitHalls();
                Due.rules(x, "rot " + rot + ";");
                for (int boxes = from; boxes < from + 100; boxes++) {
                    x.lot(0, 0, 0, boxes, 0);
                }
                x.next();
                for (int k = 0; k < 100; k++) {
                    int boxes = from + k;
                    due.same(boxes + " BOXES by rot " + rot, boxes - boxes * rot / 100, x.about(k, 3));
                }
            }
        }
    }

    /** rot is 50 at most, and cut: a LOT never loses its last BOX, and goes on being offered. */
    private static void oneBoxNeverRots() {
        FruitHalls x = new FruitHalls();
        Due.rules(x, "rot 50;");
        x.lot(0, 0, 0, 500, 0);
        int[] left = {250, 125, 63, 32, 16, 8, 4, 2, 1, 1, 1};
        for (int boxes : left) {
            x.next();
            due.same("BOXES left", boxes, x.about(0, 3));
        }
        due.same("the last BOX is SOLD", 1, Due.sellAt(x, 0, 2));
        due.same("SOLD with 1 BOX", 1, x.sale(0, 3));
    }
}
