/** Promises 16 to 19: pool, pay, worth, wire. */
public final class PoolAndWorthTest {
    private static final Due due = new Due();

    public static void main(String[] args) {
        asItWasKnown();
        claimsInThePool();
        payToTheLastCent();
        likeRests();
        partsOfGrades();
        worths();
        worthOverGrades();
        worthAsOf();
        wires();
        due.finish("PoolAndWorthTest");
    }

    /** Sells all that waits in hall 0 with the grade, at a price. */
    private static void sellAll(FruitHalls x, int grade, int price, int lots) {
        for (int b = 0; b < 2; b++) {
            x.money(b, 1000000);
            x.want(b, 0, grade, 5000, price);
        }
        due.same("sold at " + price, lots, x.auction(0));
        x.want(0, 0, grade, 0, 0);
        x.want(1, 0, grade, 0, 0);
    }

    private static void asItWasKnown() {
        FruitHalls x = new FruitHalls();
        x.next();
        x.lot(3, 0, 0, 10, 0);
        sellAll(x, 0, 7, 1);
        x.next();
        x.next();
        x.reject(0);
        x.next();
        x.lot(4, 0, 0, 2, 0);
        sellAll(x, 0, 5, 2);
        int[] pools = {0, 70, 70, 0, 60, 60};
        int[] pays = {0, 70, 70, 0, 50, 50};
        for (int day = 0; day < pools.length; day++) {
            due.same("pool(" + day + ")", pools[day], x.pool(day));
            due.same("pay(3, " + day + ")", pays[day], x.pay(3, day));
        }
        due.same("pool(-1)", 0, x.pool(-1));
        due.same("pool(999)", 60, x.pool(999));
        due.same("pool(most)", 60, x.pool(Integer.MAX_VALUE));
        due.same("pool(least)", 0, x.pool(Integer.MIN_VALUE));
        due.same("pay(4, most)", 10, x.pay(4, Integer.MAX_VALUE));
        due.same("pay(4, -1)", 0, x.pay(4, -1));
        due.same("pay(8, 4)", -1, x.pay(8, 4));
        due.same("pay(-1, 4)", -1, x.pay(-1, 4));
    }

    private static void claimsInThePool() {
        FruitHalls x = new FruitHalls();
        Due.rules(x, "loss buyer;");
        x.lot(0, 0, 0, 10, 0);
        sellAll(x, 0, 40, 1);
        x.next();
        x.reject(0);
        x.next();
        sellAll(x, 0, 30, 1);
        x.next();
        x.reject(1);
        x.next();
        sellAll(x, 0, 25, 1);
        x.next();
        x.reject(2);
        int[] pools = {400, 0, 400, 100, 400, 150, 150};
        for (int day = 0; day < pools.length; day++) {
            due.same("pool(" + day + ") with claims", pools[day], x.pool(day));
        }
        due.same("pay(0, 4)", 400, x.pay(0, 4));
        due.same("a pool without weights pays nobody", 0, x.pay(0, 5));
        Due.rules(x, "");
        int[] without = {400, 0, 300, 0, 250, 0, 0};
        for (int day = 0; day < without.length; day++) {
            due.same("pool(" + day + ") without claims", without[day], x.pool(day));
        }
    }

    private static void payToTheLastCent() {
        FruitHalls x = new FruitHalls();
        int[] boxes = {1, 2, 3, 4, 5, 6, 7, 9};
        for (int g = 0; g < 8; g++) {
            x.lot(g, 0, 0, boxes[g], 0);
        }
        x.lot(2, 0, 1, 14, 0);
        sellAll(x, 0, 3, 8);
        sellAll(x, 1, 8, 1);
        // 223 cents by 51 weights: rests 19, 38, 17, 25, 44, 12, 31, 18 make 4 cents over.
        due.same("pool", 223, x.pool(0));
        int[] pays = {4, 9, 74, 18, 22, 26, 31, 39};
        int together = 0;
        for (int g = 0; g < 8; g++) {
            due.same("pay(" + g + ", 0)", pays[g], x.pay(g, 0));
            together += x.pay(g, 0);
        }
        due.same("together", 223, together);
    }

    private static void likeRests() {
        FruitHalls x = new FruitHalls();
        for (int g = 7; g >= 5; g--) {
            x.lot(g, 0, 0, 1, 0);
        }
        x.lot(1, 0, 1, 1, 0);
        Due.rules(x, "part 1 0;");
        sellAll(x, 0, 2, 3);
        sellAll(x, 1, 2, 1);
        due.same("pool", 8, x.pool(0));
        due.same("pay(5)", 3, x.pay(5, 0));
        due.same("pay(6)", 3, x.pay(6, 0));
        due.same("pay(7)", 2, x.pay(7, 0));
        due.same("pay(1)", 0, x.pay(1, 0));
        due.same("pay(0)", 0, x.pay(0, 0));
    }

    private static void partsOfGrades() {
        FruitHalls x = new FruitHalls();
        for (int g = 0; g < 4; g++) {
            x.lot(g, 0, g, 10, 0);
            sellAll(x, g, 5, 1);
        }
        Due.rules(x, "part 0 1;part 1 2;part 2 3;part 3 4;");
        int[] pays = {20, 40, 60, 80};
        for (int g = 0; g < 4; g++) {
            due.same("pay(" + g + ", 0) by parts", pays[g], x.pay(g, 0));
        }
        Due.rules(x, "part 0 100;part 1 0;part 2 0;part 3 0;");
        due.same("all to one", 200, x.pay(0, 0));
        due.same("none to another", 0, x.pay(1, 0));
        Due.rules(x, "part 0 0;part 1 0;part 2 0;part 3 0;");
        due.same("without weights", 0, x.pay(0, 0));
        due.same("the pool stays", 200, x.pool(0));
    }

    private static void isWorth(FruitHalls x, int mark, int day, long upper, long lower) {
        due.same("worth(" + mark + ", " + day + ", 0)", upper, x.worth(mark, day, 0));
        due.same("worth(" + mark + ", " + day + ", 1)", lower, x.worth(mark, day, 1));
    }

    private static void worths() {
        FruitHalls x = new FruitHalls();
        int[] prices = {10, 13, 20};
        for (int mark = 0; mark < 3; mark++) {
            x.lot(0, mark, 0, 1 + 100 * mark, 0);
            sellAll(x, 0, prices[mark], 1);
        }
        isWorth(x, 0, 0, -13, 3);
        isWorth(x, 1, 0, -4, 3);
        isWorth(x, 2, 0, 17, 3);
        due.noSuchElement("worth of a mark that was not sold", () -> x.worth(3, 0, 0));
        due.noSuchElement("worth(6, 0, 0)", () -> x.worth(6, 0, 0));
        due.noSuchElement("worth(-1, 0, 0)", () -> x.worth(-1, 0, 0));
        due.noSuchElement("worth(0, 0, 2)", () -> x.worth(0, 0, 2));
        due.noSuchElement("worth(0, 0, -1)", () -> x.worth(0, 0, -1));
        due.noSuchElement("worth(0, -1, 0)", () -> x.worth(0, -1, 0));
        isWorth(x, 0, 5000, -13, 3);
    }

    private static void worthOverGrades() {
        FruitHalls x = new FruitHalls();
        x.lot(0, 5, 0, 1, 0);
        sellAll(x, 0, 10, 1);
        isWorth(x, 5, 0, 0, 1);
        x.lot(0, 1, 0, 1, 0);
        sellAll(x, 0, 11, 1);
        x.lot(0, 5, 3, 1, 0);
        sellAll(x, 3, 100, 1);
        x.lot(0, 1, 3, 1, 0);
        sellAll(x, 3, 90, 1);
        x.lot(0, 2, 3, 1, 0);
        sellAll(x, 3, 91, 1);
        // Means are 21/2 and 281/3: mark 5 has -1/2 and 19/3, mark 1 has 1/2 and -11/3.
        isWorth(x, 5, 0, 35, 12);
        isWorth(x, 1, 0, -19, 12);
        isWorth(x, 2, 0, -8, 3);
    }

    private static void worthAsOf() {
        FruitHalls x = new FruitHalls();
        x.lot(0, 0, 0, 1, 0);
        sellAll(x, 0, 10, 1);
        x.next();
        x.lot(0, 1, 0, 1, 0);
        sellAll(x, 0, 20, 1);
        x.next();
        x.reject(0);
        isWorth(x, 0, 0, 0, 1);
        isWorth(x, 0, 1, -5, 1);
        isWorth(x, 1, 1, 5, 1);
        isWorth(x, 1, 2, 0, 1);
        due.noSuchElement("worth of a mark whose sale is rejected", () -> x.worth(0, 2, 0));
        due.noSuchElement("worth ahead of the sale", () -> x.worth(1, 0, 1));
    }

    private static void isWired(FruitHalls x, int hall, int grade, int day, int... answers) {
        for (int what = 0; what < 4; what++) {
            due.same("wire(" + hall + ", " + grade + ", " + day + ", " + what + ")",
                    answers[what], x.wire(hall, grade, day, what));
        }
    }

    private static void wires() {
        FruitHalls x = new FruitHalls();
        x.next();
        int[] prices = {30, 10, 20};
        for (int k = 0; k < 3; k++) {
            x.lot(0, 0, 2, 5 + k, 0);
            sellAll(x, 2, prices[k], 1);
        }
        x.lot(0, 0, 1, 50, 0);
        sellAll(x, 1, 99, 1);
        isWired(x, 0, 2, 1, 3, 18, 10, 30);
        isWired(x, 0, 1, 1, 1, 50, 99, 99);
        isWired(x, 0, 0, 1, 0, 0, 0, 0);
        isWired(x, 1, 2, 1, 0, 0, 0, 0);
        isWired(x, 0, 2, 0, 0, 0, 0, 0);
        isWired(x, 0, 2, 2, 0, 0, 0, 0);
        isWired(x, 0, 2, 999, 0, 0, 0, 0);
        x.reject(1);
        isWired(x, 0, 2, 1, 2, 12, 20, 30);
        x.next();
        x.reject(2);
        isWired(x, 0, 2, 1, 2, 12, 20, 30);
        int[][] none = {
            {-1, 2, 1, 0}, {4, 2, 1, 0}, {0, -1, 1, 0}, {0, 4, 1, 0}, {0, 2, -1, 0}, {0, 2, 1000, 0},
            {0, 2, 1, -1}, {0, 2, 1, 4},
        };
        for (int[] w : none) {
            due.same("wire " + java.util.Arrays.toString(w), -1, x.wire(w[0], w[1], w[2], w[3]));
        }
    }
}
