/** Promises 6 to 8, 11, 12, 14, 15 and 22: lot, money, want, next, about, left, wanted, count. */
public final class LotsAndBuyersTest {
    private static final Due due = new Due();

    public static void main(String[] args) {
        lots();
        hundredLots();
        aboutWrong();
        money();
        wants();
        daysAndRot();
        lastDay();
        counts();
        due.finish("LotsAndBuyersTest");
    }

    private static void lots() {
        FruitHalls x = new FruitHalls();
        int[][] wrong = {
            {-1, 0, 0, 1, 0}, {8, 0, 0, 1, 0}, {0, -1, 0, 1, 0}, {0, 6, 0, 1, 0}, {0, 0, -1, 1, 0}, {0, 0, 4, 1, 0},
            {0, 0, 0, 0, 0}, {0, 0, 0, -1, 0}, {0, 0, 0, 501, 0}, {0, 0, 0, 1, -1}, {0, 0, 0, 1, 4},
            {Integer.MIN_VALUE, 0, 0, 1, 0}, {0, 0, 0, Integer.MAX_VALUE, 0},
        };
        for (int[] w : wrong) {
            due.same("lot " + java.util.Arrays.toString(w), -1, x.lot(w[0], w[1], w[2], w[3], w[4]));
        }
        due.same("no lot came", 0, x.count(1));
        due.same("the greatest of all", 0, x.lot(7, 5, 3, 500, 2));
        due.same("the least of all", 1, x.lot(0, 0, 0, 1, 0));
        int[] expected = {7, 5, 3, 500, 2, 0, -1};
        for (int what = 0; what <= 6; what++) {
            due.same("about(0, " + what + ")", expected[what], x.about(0, what));
        }
        due.same("about(1, 3)", 1, x.about(1, 3));
        due.same("hall 3", 2, x.lot(0, 0, 0, 1, 3));
    }

    private static void hundredLots() {
        FruitHalls x = new FruitHalls();
        for (int k = 0; k < 100; k++) {
            due.same("lot " + k, k, x.lot(k % 8, k % 6, k % 4, 1 + k, k % 3));
        }
        due.same("lot 101", -1, x.lot(0, 0, 0, 1, 0));
        due.same("count(1)", 100, x.count(1));
        due.same("about(99, 3)", 100, x.about(99, 3));
        due.same("about(99, 0)", 3, x.about(99, 0));
        Due.rules(x, "rot 10;");
        due.same("next with a hundred", 1, x.next());
        due.same("about(99, 3) rotten", 90, x.about(99, 3));
    }

    private static void aboutWrong() {
        FruitHalls x = new FruitHalls();
        x.lot(0, 0, 0, 1, 0);
        due.noSuchElement("about(1, 0)", () -> x.about(1, 0));
        due.noSuchElement("about(-1, 0)", () -> x.about(-1, 0));
        due.noSuchElement("about(0, 7)", () -> x.about(0, 7));
        due.noSuchElement("about(0, -1)", () -> x.about(0, -1));
        due.noSuchElement("about(100, 0)", () -> x.about(100, 0));
        due.noSuchElement("about(most, most)", () -> x.about(Integer.MAX_VALUE, Integer.MAX_VALUE));
    }

    private static void money() {
        FruitHalls x = new FruitHalls();
        due.yes("money(9, 1000000)", x.money(9, 1000000));
        due.same("left(9)", 1000000, x.left(9));
        due.no("money(9, 1000001)", x.money(9, 1000001));
        due.no("money(9, -1)", x.money(9, -1));
        due.no("money(10, 1)", x.money(10, 1));
        due.no("money(-1, 1)", x.money(-1, 1));
        due.same("left(9) stays", 1000000, x.left(9));
        due.yes("money(9, 0)", x.money(9, 0));
        due.same("left(9) is 0", 0, x.left(9));
        due.same("left(10)", -1, x.left(10));
        due.same("left(-1)", -1, x.left(-1));
        x.money(1, 50);
        x.want(1, 0, 0, 10, 5);
        x.lot(0, 0, 0, 10, 0);
        due.same("auction", 1, x.auction(0));
        due.same("left behind a sale", 40, x.left(1));
        due.yes("money anew", x.money(1, 45));
        due.same("left is set, too", 45, x.left(1));
        x.lot(0, 0, 0, 10, 0);
        x.want(1, 0, 0, 10, 4);
        x.auction(0);
        due.same("left behind another", 35, x.left(1));
        x.next();
        due.same("all is left again", 45, x.left(1));
    }

    private static void wants() {
        FruitHalls x = new FruitHalls();
        int[][] wrong = {
            {-1, 0, 0, 1, 1}, {10, 0, 0, 1, 1}, {0, -1, 0, 1, 1}, {0, 4, 0, 1, 1}, {0, 0, -1, 1, 1}, {0, 0, 4, 1, 1},
            {0, 0, 0, -1, 1}, {0, 0, 0, 5001, 1}, {0, 0, 0, 1, -1}, {0, 0, 0, 1, 10000},
        };
        x.want(0, 0, 0, 7, 7);
        for (int[] w : wrong) {
            due.no("want " + java.util.Arrays.toString(w), x.want(w[0], w[1], w[2], w[3], w[4]));
        }
        due.same("wanted stays", 7, x.wanted(0, 0, 0));
        due.yes("want(9, 3, 3, 5000, 9999)", x.want(9, 3, 3, 5000, 9999));
        due.same("wanted(9, 3, 3)", 5000, x.wanted(9, 3, 3));
        due.same("wanted(9, 3, 2)", 0, x.wanted(9, 3, 2));
        due.same("wanted(9, 2, 3)", 0, x.wanted(9, 2, 3));
        due.same("wanted(8, 3, 3)", 0, x.wanted(8, 3, 3));
        due.yes("want 0 at 0", x.want(9, 3, 3, 0, 0));
        due.same("wanted is 0", 0, x.wanted(9, 3, 3));
        int[][] none = {{-1, 0, 0}, {10, 0, 0}, {0, -1, 0}, {0, 4, 0}, {0, 0, -1}, {0, 0, 4}};
        for (int[] w : none) {
            due.same("wanted " + java.util.Arrays.toString(w), -1, x.wanted(w[0], w[1], w[2]));
        }
        x.money(2, 1000);
        x.want(2, 1, 1, 20, 3);
        x.lot(0, 0, 1, 8, 1);
        x.auction(1);
        due.same("what is bought lessens it", 12, x.wanted(2, 1, 1));
        x.next();
        due.same("a day does not restore it", 12, x.wanted(2, 1, 1));
        x.want(2, 1, 1, 9, 3);
        due.same("a new one stands in its place", 9, x.wanted(2, 1, 1));
    }

    private static void daysAndRot() {
        FruitHalls x = new FruitHalls();
        Due.rules(x, "rot 50;");
        x.lot(0, 0, 0, 1, 0);
        x.lot(0, 0, 0, 3, 0);
        x.lot(0, 0, 1, 500, 3);
        due.same("next()", 1, x.next());
        due.same("1 box stays", 1, x.about(0, 3));
        due.same("3 boxes lose 1.5, cut", 2, x.about(1, 3));
        due.same("500 boxes lose 250", 250, x.about(2, 3));
        Due.rules(x, "rot 33;");
        due.same("next()", 2, x.next());
        due.same("250 boxes lose 82.5, cut", 168, x.about(2, 3));
        x.money(0, 1000000);
        x.want(0, 3, 1, 5000, 1);
        x.auction(3);
        x.next();
        due.same("a sold lot does not rot", 168, x.about(2, 3));
        x.reject(0);
        x.next();
        due.same("a rejected one does", 113, x.about(2, 3));
        due.same("its sale keeps the boxes", 168, x.sale(0, 3));
    }

    /** The document frees answers behind the 512th call; the class keeps its word there, too. */
    private static void lastDay() {
        FruitHalls x = new FruitHalls();
        x.lot(0, 0, 0, 100, 0);
        for (int day = 1; day <= 999; day++) {
            due.same("next()", day, x.next());
        }
        Due.rules(x, "rot 50;");
        due.same("next() on day 999", -1, x.next());
        due.same("the day stays", 999, x.count(0));
        due.same("nothing rots", 100, x.about(0, 3));
    }

    private static void counts() {
        FruitHalls x = new FruitHalls();
        x.next();
        x.next();
        x.lot(0, 0, 0, 1, 0);
        x.lot(0, 0, 0, 1, 0);
        x.lot(0, 0, 0, 1, 0);
        x.money(0, 1);
        x.want(0, 0, 0, 1, 1);
        x.auction(0);
        Due.rules(x, "rot 1;loss pool;part 0 1;part 1 1;");
        x.feed(0, 0, 0, 0, 0);
        x.end(5);
        due.same("count(0)", 2, x.count(0));
        due.same("count(1)", 3, x.count(1));
        due.same("count(2)", 1, x.count(2));
        due.same("count(3)", 4, x.count(3));
        due.same("count(4)", 5, x.count(4));
        due.same("count(5)", -1, x.count(5));
        due.same("count(-1)", -1, x.count(-1));
    }
}
