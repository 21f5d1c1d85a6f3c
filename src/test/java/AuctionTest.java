/** Promises 9, 10 and 13: auction, reject, sale. */
public final class AuctionTest {
    private static final Due due = new Due();

    public static void main(String[] args) {
        wrongHall();
        turnsOfGrowers();
        roundsAsTheAuctionBegan();
        whoBids();
        priceABox();
        likeLimits();
        moneyRunsOut();
        hallsAndGradesApart();
        rejecting();
        claims();
        fourHundredSales();
        due.finish("AuctionTest");
    }

    private static void wrongHall() {
        FruitHalls x = new FruitHalls();
        due.same("auction(-1)", -1, x.auction(-1));
        due.same("auction(4)", -1, x.auction(4));
        due.same("auction without lots", 0, x.auction(3));
    }

    private static FruitHalls withRichBuyer(int hall, int grade, int boxes, int limit) {
        FruitHalls x = new FruitHalls();
        x.money(0, 1000000);
        x.want(0, hall, grade, boxes, limit);
        return x;
    }

    private static void turnsOfGrowers() {
        FruitHalls x = withRichBuyer(0, 0, 5000, 1);
        for (int day = 0; day < 6; day++) {
            x.next();
        }
        x.lot(0, 0, 0, 1, 0);
        x.lot(5, 0, 0, 1, 0);
        x.lot(6, 0, 0, 1, 0);
        x.lot(6, 0, 0, 1, 0);
        x.lot(7, 0, 0, 1, 0);
        x.lot(5, 0, 0, 1, 0);
        x.lot(6, 0, 0, 1, 0);
        due.same("all are sold", 7, x.auction(0));
        int[] order = {2, 4, 0, 1, 3, 5, 6};
        for (int s = 0; s < order.length; s++) {
            due.same("from grower 6 on, sale " + s, order[s], x.sale(s, 0));
        }
        FruitHalls y = withRichBuyer(0, 0, 5000, 1);
        for (int day = 0; day < 9; day++) {
            y.next();
        }
        y.lot(0, 0, 0, 1, 0);
        y.lot(1, 0, 0, 1, 0);
        y.auction(0);
        due.same("day 9 begins with grower 1", 1, y.sale(0, 0));
        due.same("sale of day 9", 9, y.sale(0, 2));
    }

    private static void roundsAsTheAuctionBegan() {
        FruitHalls x = withRichBuyer(0, 0, 10, 1);
        x.lot(0, 0, 0, 4, 0);
        x.lot(0, 0, 0, 4, 1);
        x.lot(0, 0, 1, 4, 0);
        x.lot(0, 0, 0, 4, 0);
        x.lot(1, 0, 0, 2, 0);
        due.same("lots of the hall alone", 3, x.auction(0));
        due.same("first", 0, x.sale(0, 0));
        due.same("second", 4, x.sale(1, 0));
        due.same("third, behind one that found no bid", 3, x.sale(2, 0));
        due.same("lot 2 goes on waiting", 0, x.about(2, 5));
        due.same("lot 2 has no sale", -1, x.about(2, 6));
        due.same("lot 1 is in another hall", 0, x.about(1, 5));
        due.same("wanted", 0, x.wanted(0, 0, 0));
    }

    private static void whoBids() {
        FruitHalls x = new FruitHalls();
        Due.rules(x, "reserve 0 10;");
        x.lot(0, 0, 0, 10, 0);
        x.money(0, 1000);
        x.want(0, 0, 0, 10, 9);
        due.same("a limit below reserve", 0, x.auction(0));
        x.want(0, 0, 0, 9, 10);
        due.same("too few boxes wanted", 0, x.auction(0));
        x.want(0, 0, 0, 10, 10);
        x.money(0, 99);
        due.same("too little money", 0, x.auction(0));
        x.money(0, 100);
        due.same("just enough of all", 1, x.auction(0));
        due.same("price is reserve", 10, x.sale(0, 4));
        due.same("left", 0, x.left(0));
        x.lot(0, 0, 1, 1, 0);
        x.want(0, 0, 1, 1, 0);
        due.same("a limit of 0 does not bid", 0, x.auction(0));
        x.want(0, 0, 1, 1, 1);
        due.same("a limit of 1 above what is left", 0, x.auction(0));
        x.money(0, 1);
        due.same("a limit of 1", 1, x.auction(0));
        due.same("a price of 1", 1, x.sale(1, 4));
    }

    private static void priceABox() {
        FruitHalls x = new FruitHalls();
        for (int b = 0; b < 10; b++) {
            x.money(b, 100000);
        }
        x.want(3, 0, 0, 100, 20);
        x.want(5, 0, 0, 100, 30);
        x.want(6, 0, 0, 100, 25);
        x.want(7, 0, 0, 9, 29);
        x.lot(2, 0, 0, 10, 0);
        due.same("auction", 1, x.auction(0));
        int[] expected = {0, 5, 0, 10, 25, -1, 0};
        for (int what = 0; what <= 6; what++) {
            due.same("sale(0, " + what + ")", expected[what], x.sale(0, what));
        }
        due.same("left(5)", 99750, x.left(5));
        due.same("wanted(5)", 90, x.wanted(5, 0, 0));
        due.same("left(6)", 100000, x.left(6));
        due.same("wanted(6)", 100, x.wanted(6, 0, 0));
        due.same("sold", 1, x.about(0, 5));
        due.same("last sale", 0, x.about(0, 6));
        due.noSuchElement("sale(1, 0)", () -> x.sale(1, 0));
        due.noSuchElement("sale(-1, 0)", () -> x.sale(-1, 0));
        due.noSuchElement("sale(0, 7)", () -> x.sale(0, 7));
        due.noSuchElement("sale(0, -1)", () -> x.sale(0, -1));
        due.noSuchElement("sale(400, 0)", () -> x.sale(400, 0));
        Due.rules(x, "reserve 0 28;");
        x.lot(2, 0, 0, 10, 0);
        x.auction(0);
        due.same("reserve above the other limits", 28, x.sale(1, 4));
        x.want(1, 0, 0, 10, 31);
        x.lot(2, 0, 0, 10, 0);
        x.auction(0);
        due.same("a greater limit ahead of a lesser one", 1, x.sale(2, 1));
        due.same("the price is the lesser one", 30, x.sale(2, 4));
    }

    private static void likeLimits() {
        FruitHalls x = new FruitHalls();
        for (int b = 4; b < 8; b++) {
            x.money(b, 1000);
            x.want(b, 0, 0, 1, 12);
        }
        for (int k = 0; k < 5; k++) {
            x.lot(0, 0, 0, 1, 0);
        }
        due.same("four of five are sold", 4, x.auction(0));
        for (int s = 0; s < 4; s++) {
            due.same("the least buyer first, sale " + s, 4 + s, x.sale(s, 1));
            due.same("price of sale " + s, s < 3 ? 12 : 1, x.sale(s, 4));
        }
    }

    private static void moneyRunsOut() {
        FruitHalls x = new FruitHalls();
        x.money(0, 100);
        x.want(0, 0, 0, 100, 10);
        x.money(1, 1000);
        x.want(1, 0, 0, 100, 6);
        x.lot(0, 0, 0, 8, 0);
        x.lot(1, 0, 0, 8, 0);
        due.same("auction", 2, x.auction(0));
        due.same("the first goes to 0", 0, x.sale(0, 1));
        due.same("at 6", 6, x.sale(0, 4));
        due.same("for the second its money is too little", 1, x.sale(1, 1));
        due.same("at 1", 1, x.sale(1, 4));
        due.same("left(0)", 52, x.left(0));
        due.same("left(1)", 992, x.left(1));
    }

    private static void hallsAndGradesApart() {
        FruitHalls x = new FruitHalls();
        x.money(0, 1000000);
        x.want(0, 2, 3, 100, 10);
        x.lot(0, 0, 3, 10, 1);
        x.lot(0, 0, 2, 10, 2);
        x.lot(0, 0, 3, 10, 2);
        due.same("hall 1", 0, x.auction(1));
        due.same("hall 2", 1, x.auction(2));
        due.same("lot of hall 2 and grade 3", 2, x.sale(0, 0));
        due.same("again", 0, x.auction(2));
    }

    private static void rejecting() {
        FruitHalls x = new FruitHalls();
        x.money(0, 1000);
        x.want(0, 0, 0, 20, 10);
        x.lot(0, 0, 0, 10, 0);
        x.auction(0);
        x.next();
        due.no("reject(1)", x.reject(1));
        due.no("reject(-1)", x.reject(-1));
        due.no("reject(400)", x.reject(400));
        due.no("reject(most)", x.reject(Integer.MAX_VALUE));
        x.money(0, 500);
        due.yes("reject(0)", x.reject(0));
        due.same("rejected on day 1", 1, x.sale(0, 5));
        due.same("waiting", 0, x.about(0, 5));
        due.same("with its boxes", 10, x.about(0, 3));
        due.same("its last sale stays", 0, x.about(0, 6));
        due.same("what is left stays", 500, x.left(0));
        due.same("wants stay", 10, x.wanted(0, 0, 0));
        due.no("reject(0) again", x.reject(0));
        due.same("day of the rejection stays", 1, x.sale(0, 5));
        due.same("sold again", 1, x.auction(0));
        due.same("last sale", 1, x.about(0, 6));
        due.same("sold", 1, x.about(0, 5));
        due.same("wants are used up", 0, x.wanted(0, 0, 0));
        due.no("reject(0), not the last", x.reject(0));
        due.yes("reject(1)", x.reject(1));
        due.same("rejected the day it was sold", 1, x.sale(1, 5));
    }

    private static void claims() {
        FruitHalls x = new FruitHalls();
        x.money(0, 100000);
        x.money(1, 100000);
        Due.rules(x, "loss buyer;rot 10;");
        x.lot(0, 0, 0, 10, 0);
        sellAt(x, 40);
        due.same("no claim of one that stands", 0, x.sale(0, 6));
        x.reject(0);
        due.same("no claim without a next sale", 0, x.sale(0, 6));
        x.next();
        sellAt(x, 35);
        due.same("boxes of the next sale", 9, x.sale(1, 3));
        due.same("claim by those boxes", 45, x.sale(0, 6));
        x.reject(1);
        due.same("it stays when the next is rejected", 45, x.sale(0, 6));
        sellAt(x, 35);
        due.same("none at a like price", 0, x.sale(1, 6));
        x.reject(2);
        sellAt(x, 50);
        due.same("none at a greater price", 0, x.sale(2, 6));
        due.same("the first claim stays", 45, x.sale(0, 6));
        Due.rules(x, "loss pool;");
        due.same("none by loss pool", 0, x.sale(0, 6));
        Due.rules(x, "loss buyer;");
        due.same("by the rules of now", 45, x.sale(0, 6));
        x.rules();
        due.same("loss pool where it is not told", 0, x.sale(0, 6));
    }

    private static void sellAt(FruitHalls x, int price) {
        x.want(0, 0, 0, 10, price);
        x.want(1, 0, 0, 10, price);
        due.same("one is sold at " + price, 1, x.auction(0));
    }

    private static void fourHundredSales() {
        FruitHalls x = withRichBuyer(0, 0, 5000, 1);
        for (int k = 0; k < 100; k++) {
            x.lot(k % 8, 0, 0, 1, 0);
        }
        for (int time = 0; time < 4; time++) {
            due.same("auction " + time, 100, x.auction(0));
            for (int s = 100 * time; time < 3 && s < 100 * time + 100; s++) {
                due.yes("reject " + s, x.reject(s));
            }
        }
        due.same("400 sales", 400, x.count(2));
        due.yes("reject(399)", x.reject(399));
        due.same("with so many none bids", 0, x.auction(0));
        due.same("still 400", 400, x.count(2));
        due.same("wants stay", 4600, x.wanted(0, 0, 0));
        due.same("what is left stays", 999600, x.left(0));
        due.same("pool", 99, x.pool(0));
        due.same("pay(0)", 13, x.pay(0, 0));
        due.same("worth(0), upper", 0, x.worth(0, 0, 0));
        due.same("worth(0), lower", 1, x.worth(0, 0, 1));
        due.same("wire", 99, x.wire(0, 0, 0, 0));
    }
}
