/** Part 3 of the document, and promises 16 to 19: each sentence that names a boundary, with a test of its own. */
public final class AsOfEdgesTest {
    private static final Due due = new Due();

    public static void main(String[] args) {
        salesOfTheDayOrAhead();
        notRejectedOnTheDayOrAhead();
        soldAndRejectedOnOneDay();
        rejectedAndSoldAgainOnOneDay();
        claimsOfThoseRejectedByThen();
        nextSaleRejectedLaterOrNot();
        rulesAreThoseOfNow();
        poolOfAllThatCount();
        greatestPool();
        weightOfEachGrade();
        cutToTheCent();
        oneCentEachToTheGreatestRests();
        ofLikeRestsTheLesserGrower();
        sevenCentsAreLeft();
        claimsArePaidToo();
        withoutWeightsNobodyHasAny();
        eachSaleOnceWhateverItsBoxes();
        lessTheMeanOfItsGrade();
        upperWithItsSign();
        noDivisorInCommon();
        zeroIsZeroByOne();
        salesThatDoNotCountHaveNoWorth();
        manySalesOfManyGrades();
        wireOfTheDayItself();
        wireCountsAsOfThatDay();
        wireLeastAndGreatest();
        due.finish("AsOfEdgesTest");
    }

    private static void pools(FruitHalls x, int... days) {
        for (int day = 0; day < days.length; day++) {
            due.same("pool(" + day + ")", days[day], x.pool(day));
        }
    }

    private static void pays(FruitHalls x, int day, int... growers) {
        int together = 0;
        for (int g = 0; g < growers.length; g++) {
            due.same("pay(" + g + ", " + day + ")", growers[g], x.pay(g, day));
            together += growers[g];
        }
        due.same("to the last cent", x.pool(day), together);
    }

    private static void isWorth(FruitHalls x, int mark, int day, long upper, long lower) {
        due.same("worth(" + mark + ", " + day + ", 0)", upper, x.worth(mark, day, 0));
        due.same("worth(" + mark + ", " + day + ", 1)", lower, x.worth(mark, day, 1));
    }

    /** A LOT more, SOLD at once. */
    private static void sold(FruitHalls x, int grower, int mark, int grade, int boxes, int price) {
        x.lot(grower, mark, grade, boxes, 0);
        due.same("one is SOLD", 1, Due.sellAt(x, grade, price));
    }

    /** "AS OF a DAY t count SALES of DAY t or ahead". */
    private static void salesOfTheDayOrAhead() {
        FruitHalls x = new FruitHalls();
        sold(x, 0, 0, 0, 1, 5);
        Due.passDays(x, 2);
        sold(x, 0, 0, 0, 1, 7);
        pools(x, 5, 5, 12, 12);
        due.same("pool(-1)", 0, x.pool(-1));
    }

    /** ".. that are not REJECTED on t or ahead". */
    private static void notRejectedOnTheDayOrAhead() {
        FruitHalls x = new FruitHalls();
        x.next();
        sold(x, 0, 0, 0, 1, 5);
        Due.passDays(x, 2);
        pools(x, 0, 5, 5, 5, 5);
        x.reject(0);
        pools(x, 0, 5, 5, 0, 0);
        x.next();
        pools(x, 0, 5, 5, 0, 0);
    }

    private static void soldAndRejectedOnOneDay() {
        FruitHalls x = new FruitHalls();
        x.next();
        sold(x, 0, 0, 0, 1, 5);
        x.reject(0);
        pools(x, 0, 0, 0);
    }

    private static void rejectedAndSoldAgainOnOneDay() {
        FruitHalls x = new FruitHalls();
        Due.rules(x, "loss buyer;");
        sold(x, 0, 0, 0, 10, 5);
        x.next();
        x.reject(0);
        Due.sellAt(x, 0, 4);
        pools(x, 50, 50, 50);
        x.rules();
        pools(x, 50, 40, 40);
        FruitHalls y = new FruitHalls();
        Due.rules(y, "loss buyer;");
        sold(y, 0, 0, 0, 10, 5);
        y.reject(0);
        Due.sellAt(y, 0, 3);
        pools(y, 50, 50);
        y.rules();
        pools(y, 30, 30);
    }

    /** "CLAIMS of those REJECTED by then whose LOT's next SALE is of t or ahead". */
    private static void claimsOfThoseRejectedByThen() {
        FruitHalls x = new FruitHalls();
        Due.rules(x, "loss buyer;");
        sold(x, 0, 0, 0, 10, 9);
        Due.passDays(x, 2);
        x.reject(0);
        pools(x, 90, 90, 0, 0);
        Due.passDays(x, 2);
        Due.sellAt(x, 0, 6);
        // 30 of the CLAIM come with the next SALE, on DAY 4, not with the rejection.
        pools(x, 90, 90, 0, 0, 90, 90);
        due.same("the CLAIM", 30, x.sale(0, 6));
    }

    /** "(whether that one was REJECTED later or not)". */
    private static void nextSaleRejectedLaterOrNot() {
        FruitHalls x = new FruitHalls();
        Due.rules(x, "loss buyer;");
        sold(x, 0, 0, 0, 10, 9);
        x.reject(0);
        x.next();
        Due.sellAt(x, 0, 6);
        x.next();
        x.reject(1);
        pools(x, 0, 90, 30, 30);
        x.next();
        Due.sellAt(x, 0, 8);
        // SALE 1 brings no CLAIM, as its next one's PRICE is greater.
        pools(x, 0, 90, 30, 110);
        FruitHalls y = new FruitHalls();
        Due.rules(y, "loss buyer;");
        sold(y, 0, 0, 0, 10, 9);
        y.reject(0);
        Due.sellAt(y, 0, 6);
        y.reject(1);
        pools(y, 30, 30);
    }

    /** "RULES are those of now". */
    private static void rulesAreThoseOfNow() {
        FruitHalls x = new FruitHalls();
        sold(x, 0, 0, 0, 10, 9);
        x.reject(0);
        Due.sellAt(x, 0, 6);
        sold(x, 1, 0, 1, 10, 1);
        Due.passDays(x, 3);
        due.same("by loss pool", 70, x.pool(0));
        due.same("by part 1", 35, x.pay(0, 0));
        Due.rules(x, "loss buyer;part 0 3;");
        due.same("by loss buyer", 100, x.pool(0));
        due.same("by part 3", 75, x.pay(0, 0));
        Due.rules(x, "part 0 0;");
        due.same("by loss pool again", 70, x.pool(0));
        due.same("by part 0", 0, x.pay(0, 0));
        due.same("all to the other", 70, x.pay(1, 0));
    }

    /** "POOL: BOXES times PRICE of all that count, and CLAIMS". */
    private static void poolOfAllThatCount() {
        FruitHalls x = new FruitHalls();
        Due.rules(x, "loss buyer;");
        due.same("no SALES", 0, x.pool(0));
        sold(x, 0, 0, 0, 1, 1);
        due.same("the least SALE", 1, x.pool(0));
        sold(x, 3, 2, 3, 100, 9999);
        due.same("of all GRADES and GROWERS", 999901, x.pool(0));
        x.lot(0, 0, 1, 7, 2);
        x.want(0, 2, 1, 7, 3);
        x.auction(2);
        due.same("of all HALLS", 999908, x.pool(0));
        x.reject(1);
        due.same("without the REJECTED one", 8, x.pool(0));
        Due.sellAt(x, 3, 9998);
        due.same("with its CLAIM", 999908, x.pool(0));
    }

    /** 100 LOTS of 500 BOXES, each for all of a BUYER's MONEY of a DAY: products above what an int holds. */
    private static void greatestPool() {
        FruitHalls x = new FruitHalls();
        Due.rules(x, "reserve 0 2000;part 0 100;");
        for (int b = 0; b < 10; b++) {
            x.money(b, 1000000);
            x.want(b, 0, 0, 5000, 2000);
        }
        for (int k = 0; k < 100; k++) {
            x.lot(k % 8, k % 6, 0, 500, 0);
        }
        for (int day = 0; day < 10; day++) {
            due.same("SOLD on DAY " + day, 10, x.auction(0));
            due.same("pool(" + day + ")", 10000000 * (day + 1), x.pool(day));
            x.next();
        }
        due.same("wanted", 0, x.wanted(9, 0, 0));
        pays(x, 9, 13000000, 13000000, 13000000, 13000000, 12000000, 12000000, 12000000, 12000000);
        for (int mark = 0; mark < 6; mark++) {
            isWorth(x, mark, 9, 0, 1);
        }
        due.same("BOXES of DAY 9", 5000, x.wire(0, 0, 9, 1));
    }

    /** "a GROWER's WEIGHT: of all SALES that count BOXES times part of the GRADE". */
    private static void weightOfEachGrade() {
        FruitHalls x = new FruitHalls();
        sold(x, 0, 0, 0, 4, 10);
        sold(x, 0, 0, 1, 3, 10);
        sold(x, 1, 0, 2, 2, 10);
        sold(x, 2, 0, 3, 1, 10);
        pays(x, 0, 70, 20, 10, 0, 0, 0, 0, 0);
        Due.rules(x, "part 0 0;part 1 1;part 2 1;part 3 5;");
        pays(x, 0, 30, 20, 50, 0, 0, 0, 0, 0);
        Due.rules(x, "part 0 0;part 1 0;part 2 100;part 3 0;");
        pays(x, 0, 0, 100, 0, 0, 0, 0, 0, 0);
        x.reject(2);
        pays(x, -1, 0, 0, 0, 0, 0, 0, 0, 0);
        Due.rules(x, "");
        // SALE 2 does not count any more: 80 cents by WEIGHTS of 7 and 1.
        pays(x, 0, 70, 0, 10, 0, 0, 0, 0, 0);
    }

    /** "Each GROWER has POOL times WEIGHT by all WEIGHTS, cut": a share without a rest gets no cent more. */
    private static void cutToTheCent() {
        FruitHalls x = new FruitHalls();
        sold(x, 0, 0, 0, 2, 1);
        sold(x, 1, 0, 0, 1, 1);
        sold(x, 2, 0, 0, 1, 2);
        // 5 cents by 4: 2.5, 1.25, 1.25.
        pays(x, 0, 3, 1, 1, 0, 0, 0, 0, 0);
        sold(x, 3, 0, 0, 1, 5);
        // 10 cents by 5: none is left.
        pays(x, 0, 4, 2, 2, 2, 0, 0, 0, 0);
    }

    /** "what is left goes one cent each to those with the greatest rests". */
    private static void oneCentEachToTheGreatestRests() {
        FruitHalls x = new FruitHalls();
        sold(x, 0, 0, 0, 1, 1);
        sold(x, 1, 0, 0, 2, 1);
        sold(x, 2, 0, 0, 4, 1);
        sold(x, 3, 0, 1, 3, 2);
        // 13 cents by 10: 1.3, 2.6, 5.2, 3.9; 2 cents are left.
        pays(x, 0, 1, 3, 5, 4, 0, 0, 0, 0);
        sold(x, 7, 0, 0, 3, 1);
        // 16 cents by 13: rests of 3, 6, 12, 9 and 9 thirteenths; 3 cents are left.
        pays(x, 0, 1, 2, 5, 4, 0, 0, 0, 4);
    }

    /** "of like ones the lesser GROWER". */
    private static void ofLikeRestsTheLesserGrower() {
        FruitHalls x = new FruitHalls();
        sold(x, 7, 0, 0, 1, 2);
        sold(x, 4, 0, 0, 1, 1);
        // 3 cents by 2: 1.5 each.
        pays(x, 0, 0, 0, 0, 0, 2, 0, 0, 1);
        sold(x, 2, 0, 0, 1, 1);
        sold(x, 3, 0, 0, 1, 2);
        // 6 cents by 4: 1.5 each; 2 cents are left.
        pays(x, 0, 0, 0, 2, 2, 1, 0, 0, 1);
    }

    /** The most cents that can be left of eight GROWERS. */
    private static void sevenCentsAreLeft() {
        FruitHalls x = new FruitHalls();
        for (int g = 7; g >= 0; g--) {
            sold(x, g, 0, 0, 1, g == 3 ? 1 : 2);
        }
        pays(x, 0, 2, 2, 2, 2, 2, 2, 2, 1);
        FruitHalls y = new FruitHalls();
        for (int g = 0; g < 8; g++) {
            sold(y, g, 0, 0, 1, g == 5 ? 2 : 1);
        }
        // 9 cents: one is left.
        pays(y, 0, 2, 1, 1, 1, 1, 1, 1, 1);
    }

    /** The POOL that is paid has the CLAIMS; a WEIGHT is of SALES that count alone. */
    private static void claimsArePaidToo() {
        FruitHalls x = new FruitHalls();
        Due.rules(x, "loss buyer;");
        sold(x, 0, 0, 0, 10, 9);
        x.reject(0);
        Due.sellAt(x, 0, 6);
        sold(x, 1, 0, 0, 20, 6);
        // 60 and 120 and a CLAIM of 30, by WEIGHTS of 10 and 20.
        pays(x, 0, 70, 140, 0, 0, 0, 0, 0, 0);
        x.reject(1);
        pays(x, 0, 0, 150, 0, 0, 0, 0, 0, 0);
    }

    /** "Without WEIGHTS nobody has any". */
    private static void withoutWeightsNobodyHasAny() {
        FruitHalls x = new FruitHalls();
        Due.rules(x, "loss buyer;part 0 0;");
        sold(x, 0, 0, 0, 10, 9);
        due.same("a POOL", 90, x.pool(0));
        for (int g = 0; g < 8; g++) {
            due.same("part 0, pay(" + g + ", 0)", 0, x.pay(g, 0));
        }
        due.same("no such GROWER", -1, x.pay(8, 0));
        Due.rules(x, "loss buyer;");
        due.same("part 1", 90, x.pay(0, 0));
        x.reject(0);
        Due.sellAt(x, 0, 6);
        x.reject(1);
        due.same("a POOL of a CLAIM alone", 30, x.pool(0));
        for (int g = 0; g < 8; g++) {
            due.same("no SALES count, pay(" + g + ", 0)", 0, x.pay(g, 0));
        }
    }

    /** "(each SALE once, whatever its BOXES)". */
    private static void eachSaleOnceWhateverItsBoxes() {
        FruitHalls x = new FruitHalls();
        sold(x, 0, 0, 0, 1, 10);
        sold(x, 1, 1, 0, 500, 20);
        isWorth(x, 0, 0, -5, 1);
        isWorth(x, 1, 0, 5, 1);
        sold(x, 1, 1, 0, 3, 20);
        // A mean of 50/3.
        isWorth(x, 0, 0, -20, 3);
        isWorth(x, 1, 0, 10, 3);
    }

    /** "PRICE less the mean PRICE of all SALES that count of that GRADE": a SALE of its own GRADE is among them. */
    private static void lessTheMeanOfItsGrade() {
        FruitHalls x = new FruitHalls();
        sold(x, 0, 0, 0, 1, 100);
        isWorth(x, 0, 0, 0, 1);
        sold(x, 0, 1, 3, 1, 1);
        isWorth(x, 0, 0, 0, 1);
        isWorth(x, 1, 0, 0, 1);
        sold(x, 0, 0, 3, 1, 4);
        // MARK 0: 0 and 3/2 by 2; MARK 1: -3/2.
        isWorth(x, 0, 0, 3, 4);
        isWorth(x, 1, 0, -3, 2);
        sold(x, 0, 1, 0, 1, 9999);
        // GRADE 0: a mean of 10099/2, so -9899/2 and 9899/2.
        isWorth(x, 0, 0, -2474, 1);
        isWorth(x, 1, 0, 2474, 1);
    }

    /** "its upper one (what 0; with its sign), and its lower one (1), which is 1 or more". */
    private static void upperWithItsSign() {
        FruitHalls x = new FruitHalls();
        sold(x, 0, 0, 0, 1, 1);
        sold(x, 0, 1, 0, 1, 9998);
        isWorth(x, 0, 0, -9997, 2);
        isWorth(x, 1, 0, 9997, 2);
        sold(x, 0, 5, 0, 1, 9999);
        // A mean of 6666.
        isWorth(x, 0, 0, -6665, 1);
        isWorth(x, 1, 0, 3332, 1);
        isWorth(x, 5, 0, 3333, 1);
    }

    /** "two numbers without a divisor in common". */
    private static void noDivisorInCommon() {
        FruitHalls x = new FruitHalls();
        int[] prices = {1, 2, 3, 6};
        for (int mark = 0; mark < 4; mark++) {
            sold(x, 0, mark, 0, 1, prices[mark]);
        }
        // A mean of 3.
        isWorth(x, 0, 0, -2, 1);
        isWorth(x, 1, 0, -1, 1);
        isWorth(x, 2, 0, 0, 1);
        isWorth(x, 3, 0, 3, 1);
        sold(x, 0, 4, 0, 1, 8);
        sold(x, 0, 4, 0, 1, 8);
        // A mean of 14/3.
        isWorth(x, 0, 0, -11, 3);
        isWorth(x, 3, 0, 4, 3);
        isWorth(x, 4, 0, 10, 3);
    }

    /** "0 is 0 by 1". */
    private static void zeroIsZeroByOne() {
        FruitHalls x = new FruitHalls();
        int[] prices = {3, 4, 5};
        for (int price : prices) {
            sold(x, 0, 0, 0, 1, price);
        }
        isWorth(x, 0, 0, 0, 1);
        sold(x, 0, 1, 0, 1, 4);
        isWorth(x, 1, 0, 0, 1);
        sold(x, 0, 2, 1, 1, 10);
        sold(x, 0, 3, 1, 1, 12);
        sold(x, 0, 3, 2, 1, 10);
        sold(x, 0, 2, 2, 1, 12);
        // -1 of one GRADE and 1 of another.
        isWorth(x, 2, 0, 0, 1);
        isWorth(x, 3, 0, 0, 1);
    }

    /** "no SALE of it counts": REJECTED ones and those to come are not in any mean. */
    private static void salesThatDoNotCountHaveNoWorth() {
        FruitHalls x = new FruitHalls();
        sold(x, 0, 0, 0, 1, 10);
        sold(x, 0, 1, 0, 1, 20);
        x.next();
        sold(x, 0, 2, 0, 1, 60);
        x.next();
        x.reject(0);
        isWorth(x, 0, 0, -5, 1);
        isWorth(x, 1, 0, 5, 1);
        due.noSuchElement("MARK 2 on DAY 0", () -> x.worth(2, 0, 0));
        isWorth(x, 0, 1, -20, 1);
        isWorth(x, 2, 1, 30, 1);
        isWorth(x, 1, 2, -20, 1);
        isWorth(x, 2, 2, 20, 1);
        due.noSuchElement("MARK 0 on DAY 2", () -> x.worth(0, 2, 0));
        due.noSuchElement("MARK 0 on DAY 2, lower one", () -> x.worth(0, 2, 1));
    }

    /** 22, 23, 25 and 27 SALES of the four GRADES have no divisor in common, so that the lower one grows great. */
    private static void manySalesOfManyGrades() {
        FruitHalls x = new FruitHalls();
        int[] sales = {22, 23, 25, 27};
        for (int grade = 0; grade < 4; grade++) {
            sold(x, 0, 5, grade, 1, 9999);
            for (int k = 1; k < sales[grade]; k++) {
                x.lot(0, 4, grade, 1, 0);
            }
            due.same("GRADE " + grade, sales[grade] - 1, Due.sellAt(x, grade, 1));
        }
        // 9998 times 4 less (1/22 + 1/23 + 1/25 + 1/27), by 4: the means are 1 and 9998 by so many SALES.
        long all = 22L * 23 * 25 * 27;
        long parts = all / 22 + all / 23 + all / 25 + all / 27;
        long upper = 9998 * (4 * all - parts);
        long lower = 4 * all;
        long divisor = gcd(upper, lower);
        isWorth(x, 5, 0, upper / divisor, lower / divisor);
        // MARK 4 has all that MARK 5 lacks, over its 93 SALES.
        long below = gcd(upper, 93 * all);
        isWorth(x, 4, 0, -upper / below, 93 * all / below);
        due.yes("beyond 300000", lower / divisor > 300000);
    }

    private static long gcd(long a, long b) {
        return b == 0 ? a : gcd(b, a % b);
    }

    private static void isWired(FruitHalls x, int grade, int day, int... told) {
        for (int what = 0; what < 4; what++) {
            due.same("wire(0, " + grade + ", " + day + ", " + what + ")", told[what], x.wire(0, grade, day, what));
        }
    }

    /** "Of SALES .. on a DAY": neither those of the DAY ahead, nor those of the next one. */
    private static void wireOfTheDayItself() {
        FruitHalls x = new FruitHalls();
        for (int day = 0; day < 3; day++) {
            sold(x, 0, 0, 0, 10 + day, 5 + day);
            x.next();
        }
        for (int day = 0; day < 3; day++) {
            isWired(x, 0, day, 1, 10 + day, 5 + day, 5 + day);
        }
        isWired(x, 0, 3, 0, 0, 0, 0);
        isWired(x, 0, 999, 0, 0, 0, 0);
        isWired(x, 1, 0, 0, 0, 0, 0);
    }

    /** ".. that count AS OF that DAY": REJECTED on it they do not, REJECTED later they do. */
    private static void wireCountsAsOfThatDay() {
        FruitHalls x = new FruitHalls();
        sold(x, 0, 0, 0, 10, 5);
        sold(x, 0, 0, 0, 20, 7);
        sold(x, 0, 0, 0, 30, 6);
        x.reject(0);
        isWired(x, 0, 0, 2, 50, 6, 7);
        x.next();
        x.reject(1);
        isWired(x, 0, 0, 2, 50, 6, 7);
        Due.sellAt(x, 0, 9);
        isWired(x, 0, 0, 2, 50, 6, 7);
        isWired(x, 0, 1, 2, 30, 9, 9);
        x.reject(2);
        isWired(x, 0, 0, 2, 50, 6, 7);
        isWired(x, 0, 1, 2, 30, 9, 9);
    }

    /** "2 the least PRICE, 3 the greatest (0 without any)". */
    private static void wireLeastAndGreatest() {
        FruitHalls x = new FruitHalls();
        isWired(x, 2, 0, 0, 0, 0, 0);
        sold(x, 0, 0, 2, 100, 9999);
        isWired(x, 2, 0, 1, 100, 9999, 9999);
        sold(x, 0, 0, 2, 500, 1);
        isWired(x, 2, 0, 2, 600, 1, 9999);
        sold(x, 0, 0, 2, 1, 2);
        isWired(x, 2, 0, 3, 601, 1, 9999);
        x.reject(0);
        isWired(x, 2, 0, 2, 501, 1, 2);
        x.reject(1);
        x.reject(2);
        isWired(x, 2, 0, 0, 0, 0, 0);
    }
}
