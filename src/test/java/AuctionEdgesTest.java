/** Part 2 of the document, and promises 9, 10, 12 and 13: each sentence that names a boundary, with its own test. */
public final class AuctionEdgesTest {
    private static final Due due = new Due();

    public static void main(String[] args) {
        allThatAreWaitingThere();
        eachOnce();
        fromDayMod8On();
        roundBehind7To0();
        nextOneOfTheGrowersThereByNumber();
        asTheyWereWhenTheAuctionBegan();
        roundsUpToAHundred();
        wantHasAtLeastItsBoxes();
        limitIs1AtLeast();
        limitNotBelowReserve();
        limitTimesBoxesNotAboveLeft();
        dearestBidThatCanBe();
        greatestLimitHasIt();
        ofLikeOnesTheLeastBuyer();
        priceOfTheOthersLimit();
        priceOfThoseWhoBidAlone();
        priceOfReserve();
        priceOfOne();
        withoutBidsItGoesOnWaiting();
        boughtAndPaidLessenAtOnce();
        fourHundredSales();
        noneBidsBehindThe400th();
        lastOfItsLotAlone();
        rejectedOnADay();
        waitingWithTheBoxesItWasSoldWith();
        wantsAndLeftStay();
        itsLastSale();
        claimAtALesserPrice();
        claimTimesTheNextSalesBoxes();
        claimWithoutANextSale();
        claimByLoss();
        due.finish("AuctionEdgesTest");
    }

    private static FruitHalls withMoney() {
        FruitHalls x = new FruitHalls();
        for (int b = 0; b < 10; b++) {
            x.money(b, 1000000);
        }
        return x;
    }

    private static void isSold(FruitHalls x, int sale, int lot, int buyer, int price) {
        due.same("LOT of SALE " + sale, lot, x.sale(sale, 0));
        due.same("BUYER of SALE " + sale, buyer, x.sale(sale, 1));
        due.same("PRICE of SALE " + sale, price, x.sale(sale, 4));
    }

    /** "AN AUCTION in a HALL offers all LOTS that are WAITING there". */
    private static void allThatAreWaitingThere() {
        for (int hall = 0; hall < 4; hall++) {
            FruitHalls x = withMoney();
            for (int k = 0; k < 8; k++) {
                x.lot(k, 0, 0, 1, k % 4);
                x.want(0, k % 4, 0, 10, 5);
            }
            due.same("SOLD in HALL " + hall, 2, x.auction(hall));
            for (int k = 0; k < 8; k++) {
                due.same("LOT " + k, k % 4 == hall ? 1 : 0, x.about(k, 5));
            }
            due.same("again", 0, x.auction(hall));
        }
    }

    /** "each once": one without bids is not offered again when a later one's SALE could have let it in. */
    private static void eachOnce() {
        FruitHalls x = new FruitHalls();
        x.money(0, 100);
        x.money(1, 1000);
        x.want(0, 0, 0, 100, 10);
        x.want(1, 0, 0, 30, 9);
        x.lot(0, 0, 0, 40, 0);
        x.lot(1, 0, 0, 10, 0);
        due.same("one is SOLD", 1, x.auction(0));
        isSold(x, 0, 1, 0, 9);
        due.same("LOT 0 goes on WAITING", 0, x.about(0, 5));
        due.same("what is LEFT", 10, x.left(0));
    }

    /** "GROWER by GROWER, from DAY MOD 8 on". */
    private static void fromDayMod8On() {
        for (int day = 0; day <= 17; day++) {
            FruitHalls x = withMoney();
            Due.passDays(x, day);
            for (int g = 0; g < 8; g++) {
                x.lot(g, 0, 0, 1, 1);
            }
            x.want(0, 1, 0, 8, 1);
            due.same("all are SOLD", 8, x.auction(1));
            for (int s = 0; s < 8; s++) {
                due.same("DAY " + day + ", SALE " + s, (day + s) % 8, x.sale(s, 0));
            }
        }
    }

    /** "round behind 7 to 0". */
    private static void roundBehind7To0() {
        FruitHalls x = withMoney();
        Due.passDays(x, 7);
        x.lot(0, 0, 0, 1, 0);
        x.lot(6, 0, 0, 1, 0);
        x.lot(7, 0, 0, 1, 0);
        x.lot(7, 0, 0, 1, 0);
        x.want(0, 0, 0, 3, 1);
        due.same("three are SOLD", 3, x.auction(0));
        int[] order = {2, 0, 1};
        for (int s = 0; s < 3; s++) {
            due.same("DAY 7, SALE " + s, order[s], x.sale(s, 0));
        }
        due.same("GROWER 7's other LOT is of round 1", 0, x.about(3, 5));
    }

    /** "in round k (from 0 on) .. the one LOT that is the (k + 1)st of the GROWER's there by number". */
    private static void nextOneOfTheGrowersThereByNumber() {
        FruitHalls x = withMoney();
        int[] growers = {1, 1, 0, 1, 0, 2, 0};
        for (int g : growers) {
            x.lot(g, 0, 0, 1, 0);
        }
        x.lot(0, 0, 0, 1, 3);
        x.want(0, 0, 0, 10, 1);
        due.same("all are SOLD", 7, x.auction(0));
        int[] order = {2, 0, 5, 4, 1, 6, 3};
        for (int s = 0; s < 7; s++) {
            due.same("by rounds, SALE " + s, order[s], x.sale(s, 0));
        }
    }

    /** "(as they were when the AUCTION began)": SOLD ones take no round, REJECTED ones do; SALES of now shift none. */
    private static void asTheyWereWhenTheAuctionBegan() {
        FruitHalls x = withMoney();
        x.lot(0, 0, 0, 1, 0);
        x.lot(0, 0, 0, 1, 0);
        x.want(0, 0, 0, 2, 1);
        x.auction(0);
        x.reject(1);
        x.lot(0, 0, 0, 1, 0);
        x.lot(1, 0, 0, 1, 0);
        x.lot(1, 0, 1, 1, 0);
        x.lot(1, 0, 0, 1, 0);
        x.want(0, 0, 0, 100, 1);
        due.same("all but the one of another GRADE", 4, x.auction(0));
        int[] order = {1, 3, 2, 5};
        for (int s = 0; s < 4; s++) {
            due.same("SALE " + (2 + s), order[s], x.sale(2 + s, 0));
        }
    }

    /** A GROWER may have all 100 LOTS, so that there are 100 rounds. */
    private static void roundsUpToAHundred() {
        FruitHalls x = withMoney();
        for (int k = 0; k < 100; k++) {
            x.lot(7, 0, 0, 1, 0);
        }
        x.want(0, 0, 0, 100, 1);
        due.same("all are SOLD", 100, x.auction(0));
        for (int s = 0; s < 100; s++) {
            due.same("SALE " + s, s, x.sale(s, 0));
        }
        due.same("wanted", 0, x.wanted(0, 0, 0));
    }

    private static int bids(String rules, int boxes, int wantBoxes, int limit, int money) {
        FruitHalls x = new FruitHalls();
        Due.rules(x, rules);
        x.lot(0, 0, 2, boxes, 1);
        x.money(4, money);
        x.want(4, 1, 2, wantBoxes, limit);
        return x.auction(1);
    }

    /** "whose WANT there for its GRADE has at least its BOXES". */
    private static void wantHasAtLeastItsBoxes() {
        due.same("10 BOXES, 9 wanted", 0, bids("", 10, 9, 5, 1000));
        due.same("10 BOXES, 10 wanted", 1, bids("", 10, 10, 5, 1000));
        due.same("10 BOXES, 11 wanted", 1, bids("", 10, 11, 5, 1000));
        due.same("1 BOX, 0 wanted", 0, bids("", 1, 0, 5, 1000));
        due.same("500 BOXES, 499 wanted", 0, bids("", 500, 499, 5, 1000000));
        due.same("500 BOXES, 500 wanted", 1, bids("", 500, 500, 5, 1000000));
        FruitHalls x = withMoney();
        x.lot(0, 0, 2, 10, 1);
        x.want(0, 1, 1, 10, 5);
        x.want(0, 0, 2, 10, 5);
        x.want(0, 2, 2, 10, 5);
        x.want(0, 1, 3, 10, 5);
        due.same("WANTS of another HALL or GRADE", 0, x.auction(1));
    }

    /** "whose LIMIT is 1 at least". */
    private static void limitIs1AtLeast() {
        due.same("LIMIT 0", 0, bids("", 1, 1, 0, 1000));
        due.same("LIMIT 1", 1, bids("", 1, 1, 1, 1000));
        due.same("LIMIT 0 by reserve 0", 0, bids("reserve 2 0;", 1, 1, 0, 1000));
    }

    /** "and not below reserve": that of its own GRADE. */
    private static void limitNotBelowReserve() {
        due.same("LIMIT 6 by reserve 7", 0, bids("reserve 2 7;", 1, 1, 6, 1000));
        due.same("LIMIT 7 by reserve 7", 1, bids("reserve 2 7;", 1, 1, 7, 1000));
        due.same("LIMIT 8 by reserve 7", 1, bids("reserve 2 7;", 1, 1, 8, 1000));
        due.same("LIMIT 6 by others' reserve 7", 1, bids("reserve 0 7;reserve 1 7;reserve 3 7;", 1, 1, 6, 1000));
        due.same("LIMIT 9998 by reserve 9999", 0, bids("reserve 2 9999;", 1, 1, 9998, 10000));
        due.same("LIMIT 9999 by reserve 9999", 1, bids("reserve 2 9999;", 1, 1, 9999, 10000));
    }

    /** "and whose LIMIT times its BOXES is not above what is LEFT": it is the LIMIT, not the PRICE, that counts. */
    private static void limitTimesBoxesNotAboveLeft() {
        due.same("70 cents, 69 LEFT", 0, bids("", 10, 10, 7, 69));
        due.same("70 cents, 70 LEFT", 1, bids("", 10, 10, 7, 70));
        due.same("70 cents, 71 LEFT", 1, bids("", 10, 10, 7, 71));
        due.same("1 cent, 0 LEFT", 0, bids("", 1, 1, 1, 0));
        due.same("1000000 cents, 999999 LEFT", 0, bids("", 500, 500, 2000, 999999));
        due.same("1000000 cents, 1000000 LEFT", 1, bids("", 500, 500, 2000, 1000000));
        due.same("1000500 cents, 1000000 LEFT", 0, bids("", 500, 500, 2001, 1000000));
    }

    /** 500 BOXES at 9999 cents are above all MONEY that there may be. */
    private static void dearestBidThatCanBe() {
        due.same("4999500 cents", 0, bids("", 500, 5000, 9999, 1000000));
        due.same("999900 cents", 1, bids("", 100, 5000, 9999, 1000000));
        due.same("1009899 cents", 0, bids("", 101, 5000, 9999, 1000000));
    }

    /** "The greatest LIMIT has it". */
    private static void greatestLimitHasIt() {
        for (int best = 0; best < 10; best++) {
            FruitHalls x = withMoney();
            for (int b = 0; b < 10; b++) {
                x.want(b, 0, 0, 10, b == best ? 31 : 30 - b);
            }
            x.lot(0, 0, 0, 10, 0);
            x.auction(0);
            isSold(x, 0, 0, best, best == 0 ? 29 : 30);
        }
    }

    /** "of like ones the least BUYER". */
    private static void ofLikeOnesTheLeastBuyer() {
        for (int least = 0; least < 9; least++) {
            FruitHalls x = withMoney();
            for (int b = least; b < 10; b++) {
                x.want(b, 0, 0, 10, 30);
            }
            if (least > 0) {
                x.want(0, 0, 0, 10, 29);
            }
            x.lot(0, 0, 0, 10, 0);
            x.auction(0);
            isSold(x, 0, 0, least, 30);
        }
        FruitHalls x = withMoney();
        x.want(0, 0, 0, 9, 30);
        x.want(1, 0, 0, 10, 30);
        x.want(9, 0, 0, 10, 30);
        x.lot(0, 0, 0, 10, 0);
        x.auction(0);
        isSold(x, 0, 0, 1, 30);
    }

    /** "the PRICE .. the greatest of these: the greatest LIMIT of the other ones who bid". */
    private static void priceOfTheOthersLimit() {
        due.same("others at 8 and 5", 8, priceOf("", 9, 8, 5));
        due.same("others at 5 and 8", 8, priceOf("", 9, 5, 8));
        due.same("a like one", 9, priceOf("", 9, 9, 5));
        due.same("two like ones", 9, priceOf("", 9, 9, 9));
        due.same("the winner comes last", 8, priceOf("", 5, 8, 9));
        due.same("the winner comes in the middle", 8, priceOf("", 8, 9, 5));
        due.same("others at 1", 1, priceOf("", 9, 1, 1));
        due.same("others at 9998", 9998, priceOf("", 9999, 9998, 1));
    }

    /** LIMITS of BUYERS 0, 1 and 2 for a LOT of 1 BOX; 0 for one who does not bid. */
    private static int priceOf(String rules, int first, int second, int third) {
        FruitHalls x = withMoney();
        Due.rules(x, rules);
        x.want(0, 0, 0, 1, first);
        x.want(1, 0, 0, 1, second);
        x.want(2, 0, 0, 1, third);
        x.lot(0, 0, 0, 1, 0);
        due.same("one is SOLD", 1, x.auction(0));
        return x.sale(0, 4);
    }

    /** ".. of the other ones who bid (if there are)": who can't bid does not raise the PRICE. */
    private static void priceOfThoseWhoBidAlone() {
        due.same("others below reserve", 6, priceOf("reserve 0 6;", 9, 5, 4));
        FruitHalls x = withMoney();
        x.want(0, 0, 0, 10, 9);
        x.want(1, 0, 0, 9, 8);
        x.want(2, 0, 0, 10, 7);
        x.money(2, 69);
        x.want(3, 0, 0, 10, 6);
        x.money(3, 60);
        x.lot(0, 0, 0, 10, 0);
        x.auction(0);
        isSold(x, 0, 0, 0, 6);
        due.same("none but the BUYER pays", 60, x.left(3));
    }

    /** "reserve": just above, at and just below the others' LIMIT. */
    private static void priceOfReserve() {
        due.same("reserve 7, other at 8", 8, priceOf("reserve 0 7;", 9, 8, 0));
        due.same("reserve 8, other at 8", 8, priceOf("reserve 0 8;", 9, 8, 0));
        due.same("reserve 9, other at 8", 9, priceOf("reserve 0 9;", 9, 8, 0));
        due.same("reserve 7, no other", 7, priceOf("reserve 0 7;", 9, 0, 0));
        due.same("reserve of another GRADE", 8, priceOf("reserve 1 9;", 9, 8, 0));
    }

    /** "and 1". */
    private static void priceOfOne() {
        due.same("no other, nothing told", 1, priceOf("", 9, 0, 0));
        due.same("no other, reserve 0", 1, priceOf("reserve 0 0;", 9, 0, 0));
        due.same("no other, reserve 1", 1, priceOf("reserve 0 1;", 9, 0, 0));
        due.same("no other, reserve 2", 2, priceOf("reserve 0 2;", 9, 0, 0));
        due.same("other at 2", 2, priceOf("", 9, 2, 0));
    }

    /** "Without bids it goes on WAITING". */
    private static void withoutBidsItGoesOnWaiting() {
        FruitHalls x = withMoney();
        x.lot(0, 0, 0, 10, 0);
        due.same("none is SOLD", 0, x.auction(0));
        due.same("WAITING", 0, x.about(0, 5));
        due.same("no SALE", -1, x.about(0, 6));
        due.same("SALES", 0, x.count(2));
        Due.rules(x, "rot 10;");
        x.next();
        due.same("so it rots", 9, x.about(0, 3));
        x.want(8, 0, 0, 9, 1);
        due.same("and is offered again", 1, x.auction(0));
        isSold(x, 0, 0, 8, 1);
    }

    /** "What is bought lessens the WANT's BOXES; what is paid lessens what is LEFT", for the next LOT of an AUCTION. */
    private static void boughtAndPaidLessenAtOnce() {
        FruitHalls x = new FruitHalls();
        x.money(0, 100);
        x.want(0, 0, 0, 25, 4);
        for (int k = 0; k < 3; k++) {
            x.lot(k, 0, 0, 10, 0);
        }
        due.same("20 of 25 BOXES", 2, x.auction(0));
        due.same("wanted", 5, x.wanted(0, 0, 0));
        due.same("LEFT", 80, x.left(0));
        FruitHalls y = new FruitHalls();
        Due.rules(y, "reserve 0 4;");
        y.money(0, 119);
        y.want(0, 0, 0, 5000, 4);
        for (int k = 0; k < 3; k++) {
            y.lot(k, 0, 0, 10, 0);
        }
        due.same("80 of 119 cents", 2, y.auction(0));
        due.same("LEFT", 39, y.left(0));
        y.next();
        due.same("all is LEFT again", 119, y.left(0));
        due.same("the third", 1, y.auction(0));
        due.same("paid for one", 79, y.left(0));
    }

    /** "A SALE (400 at most": the last AUCTION makes the 400th just with its last LOT. */
    private static void fourHundredSales() {
        FruitHalls x = hundredLots();
        sellAllAgain(x, 0);
        sellAllAgain(x, 100);
        sellAllAgain(x, 200);
        due.same("SALES up to 400", 100, x.auction(0));
        due.same("SALES", 400, x.count(2));
        due.same("the last one", 0, x.sale(399, 1));
        due.same("pool(0)", 100, x.pool(0));
        due.same("pay(0, 0)", 13, x.pay(0, 0));
        due.same("worth(0, 0, 1)", 1, x.worth(0, 0, 1));
        due.same("wire(0, 0, 0, 0)", 100, x.wire(0, 0, 0, 0));
        due.noSuchElement("sale(400, 0)", () -> x.sale(400, 0));
        due.no("reject(400)", x.reject(400));
        due.yes("SALES may be REJECTED still", x.reject(399));
        due.same("none bids with 400", 0, x.auction(0));
        due.same("SALES stay", 400, x.count(2));
        due.same("WANTS stay", 4600, x.wanted(0, 0, 0));
        due.same("what is LEFT stays", 999600, x.left(0));
    }

    /** "with so many none bids)": the 400th comes in an AUCTION that has one LOT more. */
    private static void noneBidsBehindThe400th() {
        FruitHalls x = hundredLots();
        sellAllAgain(x, 0);
        sellAllAgain(x, 100);
        due.same("SALES up to 300", 100, x.auction(0));
        rejectFrom(x, 200, 99);
        due.same("SALES up to 399", 99, x.auction(0));
        due.yes("two are WAITING", x.reject(397) && x.reject(398));
        int first = x.sale(397, 0);
        int second = x.sale(398, 0);
        due.same("the 400th SALE", 1, x.auction(0));
        due.same("SALES", 400, x.count(2));
        int sold = x.sale(399, 0);
        due.yes("it is one of the two", sold == first || sold == second);
        int other = first + second - sold;
        due.same("the other goes on WAITING", 0, x.about(other, 5));
        due.same("its last SALE", sold == first ? 398 : 397, x.about(other, 6));
        due.same("one was bought", 4600, x.wanted(0, 0, 0));
        due.same("one was paid", 999600, x.left(0));
    }

    private static FruitHalls hundredLots() {
        FruitHalls x = withMoney();
        x.want(0, 0, 0, 5000, 3);
        for (int k = 0; k < 100; k++) {
            x.lot(k % 8, 0, 0, 1, 0);
        }
        return x;
    }

    private static void sellAllAgain(FruitHalls x, int from) {
        due.same("all are SOLD", 100, x.auction(0));
        rejectFrom(x, from, 100);
    }

    private static void rejectFrom(FruitHalls x, int from, int sales) {
        for (int s = from; s < from + sales; s++) {
            due.yes("reject(" + s + ")", x.reject(s));
        }
    }

    /** One LOT of 8 BOXES by rot 50, SOLD on DAY 1 at 20, and WANTS for more. */
    private static FruitHalls oneSold() {
        FruitHalls x = withMoney();
        Due.rules(x, "rot 50;loss buyer;");
        x.lot(2, 3, 0, 16, 0);
        x.next();
        x.want(5, 0, 0, 100, 20);
        x.want(6, 0, 0, 100, 20);
        x.auction(0);
        isSold(x, 0, 0, 5, 20);
        return x;
    }

    /** "by the last of its LOT alone"; promise 10: "false: .. it is REJECTED, or not the last of its LOT". */
    private static void lastOfItsLotAlone() {
        FruitHalls x = oneSold();
        due.yes("reject(0)", x.reject(0));
        due.no("reject(0), it is REJECTED", x.reject(0));
        x.next();
        due.no("reject(0) on another DAY", x.reject(0));
        due.same("the DAY stays", 1, x.sale(0, 5));
        due.same("SOLD again", 1, x.auction(0));
        due.no("reject(0), not the last", x.reject(0));
        due.same("its LOT stays SOLD", 1, x.about(0, 5));
        due.yes("reject(1), the last", x.reject(1));
        due.no("reject(0) now, too", x.reject(0));
    }

    /** Promise 10: "SALE k is REJECTED on DAY". */
    private static void rejectedOnADay() {
        FruitHalls x = oneSold();
        due.same("not REJECTED", -1, x.sale(0, 5));
        Due.passDays(x, 3);
        x.reject(0);
        due.same("on DAY 4", 4, x.sale(0, 5));
        due.same("of DAY 1", 1, x.sale(0, 2));
        FruitHalls y = new FruitHalls();
        y.lot(0, 0, 0, 1, 0);
        Due.sellAt(y, 0, 1);
        y.reject(0);
        due.same("on DAY 0", 0, y.sale(0, 5));
    }

    /** Promise 10: "WAITING, with the BOXES it was SOLD with, in its HALL"; 12: "(SOLD: those it was sold with)". */
    private static void waitingWithTheBoxesItWasSoldWith() {
        FruitHalls x = oneSold();
        due.same("SOLD with 8", 8, x.about(0, 3));
        Due.passDays(x, 2);
        due.same("8 still", 8, x.about(0, 3));
        due.same("SOLD", 1, x.about(0, 5));
        x.reject(0);
        due.same("WAITING", 0, x.about(0, 5));
        due.same("with 8", 8, x.about(0, 3));
        due.same("in its HALL", 0, x.about(0, 4));
        x.next();
        due.same("and it rots", 4, x.about(0, 3));
        due.same("the SALE's BOXES stay", 8, x.sale(0, 3));
        x.auction(0);
        due.same("SOLD again with 4", 4, x.sale(1, 3));
        x.reject(1);
        due.same("WAITING with 4", 4, x.about(0, 3));
    }

    /** Promise 10: "WANTS, and what is LEFT, stay". */
    private static void wantsAndLeftStay() {
        FruitHalls x = oneSold();
        due.same("wanted", 92, x.wanted(5, 0, 0));
        due.same("LEFT", 999840, x.left(5));
        x.reject(0);
        due.same("wanted stays", 92, x.wanted(5, 0, 0));
        due.same("LEFT stays", 999840, x.left(5));
        x.next();
        due.same("all is LEFT again", 1000000, x.left(5));
        due.same("wanted stays still", 92, x.wanted(5, 0, 0));
    }

    /** Promise 12: "5 1 if SOLD, 6 its last SALE (NONE)". */
    private static void itsLastSale() {
        FruitHalls x = new FruitHalls();
        x.lot(0, 0, 0, 1, 0);
        x.lot(0, 0, 0, 1, 0);
        due.same("none yet", -1, x.about(0, 6));
        due.same("not SOLD yet", 0, x.about(0, 5));
        Due.sellAt(x, 0, 1);
        due.same("SALE 0", 0, x.about(0, 6));
        due.same("SALE 1", 1, x.about(1, 6));
        x.reject(0);
        due.same("a REJECTED one is the last, too", 0, x.about(0, 6));
        Due.sellAt(x, 0, 1);
        due.same("SALE 2", 2, x.about(0, 6));
        due.same("SALE 1 still", 1, x.about(1, 6));
    }

    /** A LOT of 5 BOXES, SOLD at 20, REJECTED and SOLD at another PRICE: the CLAIM. */
    private static int claim(String rules, int price) {
        FruitHalls x = new FruitHalls();
        Due.rules(x, rules);
        x.lot(0, 0, 0, 5, 0);
        Due.sellAt(x, 0, 20);
        x.reject(0);
        Due.sellAt(x, 0, price);
        due.same("SOLD at", price, x.sale(1, 4));
        due.same("no CLAIM of the one that stands", 0, x.sale(1, 6));
        return x.sale(0, 6);
    }

    /** "its LOT's next SALE .. at a lesser PRICE: by loss buyer the difference times that SALE's BOXES". */
    private static void claimAtALesserPrice() {
        due.same("19", 5, claim("loss buyer;", 19));
        due.same("20", 0, claim("loss buyer;", 20));
        due.same("21", 0, claim("loss buyer;", 21));
        due.same("1", 95, claim("loss buyer;", 1));
        due.same("9999", 0, claim("loss buyer;", 9999));
        FruitHalls x = new FruitHalls();
        Due.rules(x, "loss buyer;");
        x.lot(0, 0, 0, 100, 0);
        Due.sellAt(x, 0, 9999);
        x.reject(0);
        Due.sellAt(x, 0, 1);
        due.same("the greatest difference", 999800, x.sale(0, 6));
    }

    /** "that SALE's BOXES": those of the next SALE, when some have rotted. */
    private static void claimTimesTheNextSalesBoxes() {
        FruitHalls x = new FruitHalls();
        Due.rules(x, "rot 50;loss buyer;");
        x.lot(0, 0, 0, 8, 0);
        Due.sellAt(x, 0, 20);
        x.reject(0);
        x.next();
        Due.sellAt(x, 0, 17);
        due.same("3 cents times 4 BOXES", 12, x.sale(0, 6));
        x.reject(1);
        x.next();
        Due.sellAt(x, 0, 10);
        due.same("the first one's next SALE stays the same", 12, x.sale(0, 6));
        due.same("7 cents times 2 BOXES", 14, x.sale(1, 6));
        due.same("none of the third", 0, x.sale(2, 6));
    }

    /** "(if there is one)", and of a REJECTED SALE alone. */
    private static void claimWithoutANextSale() {
        FruitHalls x = new FruitHalls();
        Due.rules(x, "loss buyer;");
        x.lot(0, 0, 0, 5, 0);
        x.lot(1, 0, 0, 5, 0);
        Due.sellAt(x, 0, 20);
        due.same("not REJECTED", 0, x.sale(0, 6));
        x.reject(0);
        due.same("not SOLD again", 0, x.sale(0, 6));
        x.lot(0, 0, 0, 5, 0);
        x.want(0, 0, 0, 5, 1);
        x.auction(0);
        due.same("LOT 0 is SOLD again", 2, x.about(0, 6));
        due.same("so there is one", 95, x.sale(0, 6));
        due.same("of another LOT there is none", 0, x.sale(1, 6));
    }

    /** "by loss pool 0"; promise 13: "its CLAIM as things are now". */
    private static void claimByLoss() {
        due.same("loss pool", 0, claim("loss pool;", 10));
        due.same("nothing told", 0, claim("", 10));
        FruitHalls x = new FruitHalls();
        x.lot(0, 0, 0, 5, 0);
        Due.sellAt(x, 0, 20);
        x.reject(0);
        Due.sellAt(x, 0, 18);
        due.same("by loss pool", 0, x.sale(0, 6));
        Due.rules(x, "loss buyer;");
        due.same("by the RULES of now", 10, x.sale(0, 6));
        due.yes("RULES with a FAULT", Due.rules(x, "loss pool;loss pool;") < 0);
        due.same("do not change it", 10, x.sale(0, 6));
        x.reject(1);
        due.same("nor that the next one is REJECTED, too", 10, x.sale(0, 6));
        x.rules();
        due.same("an empty text does", 0, x.sale(0, 6));
    }
}
