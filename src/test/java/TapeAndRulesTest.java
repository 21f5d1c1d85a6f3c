/** Promises 1 to 5: a new object, feed, end, rules, fault. */
public final class TapeAndRulesTest {
    private static final Due due = new Due();

    public static void main(String[] args) {
        newObject();
        feedAndEnd();
        rulesThatStand();
        noToken();
        tokenThatCannotCome();
        numberNotAsTold();
        toldTwice();
        firstAlongTheText();
        rulesStayBehindAFault();
        highestByteFirst();
        due.finish("TapeAndRulesTest");
    }

    private static void newObject() {
        FruitHalls x = new FruitHalls();
        for (int what = 0; what <= 4; what++) {
            due.same("new: count(" + what + ")", 0, x.count(what));
        }
        due.same("new: fault()", 0, x.fault());
        due.same("new: sent(0)", -1, x.sent(0));
        due.same("new: left(9)", 0, x.left(9));
        due.same("new: wanted(9, 3, 3)", 0, x.wanted(9, 3, 3));
        due.same("new: pool(0)", 0, x.pool(0));
        due.noSuchElement("new: about(0, 0)", () -> x.about(0, 0));
        due.noSuchElement("new: sale(0, 0)", () -> x.sale(0, 0));
        due.no("new: reject(0)", x.reject(0));
    }

    private static void feedAndEnd() {
        FruitHalls x = new FruitHalls();
        for (int k = 1; k <= 10; k++) {
            due.same("feed " + k, 20 * k, x.feed(0, 0, 0, 0, 0));
        }
        due.same("feed beyond 200", -1, x.feed(0, 0, 0, 0, 0));
        due.same("count(4) full", 200, x.count(4));
        due.no("end(201)", x.end(201));
        due.no("end(-1)", x.end(-1));
        due.no("end(least)", x.end(Integer.MIN_VALUE));
        due.yes("end(200)", x.end(200));
        due.same("count(4) behind end(200)", 200, x.count(4));
        due.yes("end(181)", x.end(181));
        due.same("feed at 181", -1, x.feed(0, 0, 0, 0, 0));
        due.same("count(4) at 181", 181, x.count(4));
        due.no("end(182)", x.end(182));
        due.yes("end(180)", x.end(180));
        due.same("feed at 180", 200, x.feed(0, 0, 0, 0, 0));
        due.yes("end(0)", x.end(0));
        due.same("count(4) empty", 0, x.count(4));
        due.no("end(1) of an empty tape", x.end(1));
        due.same("feed behind end(0)", 20, x.feed(0, 0, 0, 0, 0));
    }

    private static void stands(String text, int rules) {
        FruitHalls x = new FruitHalls();
        due.same("rules of '" + text + "'", rules, Due.rules(x, text));
        due.same("fault of '" + text + "'", 0, x.fault());
        due.same("count(3) of '" + text + "'", rules, x.count(3));
        due.same("count(4) behind '" + text + "'", 0, x.count(4));
    }

    private static void fails(String text, int place, int kind) {
        FruitHalls x = new FruitHalls();
        due.same("rules of '" + text + "'", -1 - place, Due.rules(x, text));
        due.same("fault of '" + text + "'", kind, x.fault());
        due.same("count(3) of '" + text + "'", 0, x.count(3));
        due.same("count(4) behind '" + text + "'", 0, x.count(4));
    }

    private static void rulesThatStand() {
        stands("", 0);
        stands("  \n ", 0);
        stands("rot 50;", 1);
        stands("\n rot\n0 ;\n", 1);
        stands("rot 0050;", 1);
        stands("loss buyer;", 1);
        stands("loss pool;", 1);
        stands("reserve 0003 9999;", 1);
        stands("part 3 100;part 0 0;", 2);
        stands("reserve 0 1;part 0 1;rot 1;loss pool;", 4);
        stands("reserve 0 0;reserve 1 1;reserve 2 2;reserve 3 3;"
                + "part 0 0;part 1 1;part 2 2;part 3 3;rot 3;loss buyer;", 10);
    }

    private static void noToken() {
        fails("Rot 1;", 0, 1);
        fails("rot1;", 0, 1);
        fails("rot 1a;", 4, 1);
        fails("rot 10000;", 4, 1);
        fails("rot 00000;", 4, 1);
        fails("1rot 1;", 0, 1);
        fails("rot 1,", 5, 1);
        fails("rot\t1;", 3, 1);
        fails("rot 1;\r", 6, 1);
        fails("rot -1;", 4, 1);
        fails("rot 1;" + (char) 233, 6, 1);
        fails("" + (char) 0, 0, 1);
        fails("loss {", 5, 1);
        fails("loss `", 5, 1);
        fails("rot :", 4, 1);
        fails("rot /", 4, 1);
        fails("reserve 0 1 .", 12, 1);
    }

    private static void tokenThatCannotCome() {
        fails("rot", 3, 2);
        fails("rot  \n", 6, 2);
        fails("rot 1", 5, 2);
        fails("rot 1 ", 6, 2);
        fails(";", 0, 2);
        fails("rot 1;;", 6, 2);
        fails("5", 0, 2);
        fails("99999", 0, 1);
        fails("buyer", 0, 2);
        fails("azaz", 0, 2);
        fails("rot z;", 4, 2);
        fails("rotten 1;", 0, 2);
        fails("ro 1;", 0, 2);
        fails("rot;", 3, 2);
        fails("rot rot", 4, 2);
        fails("loss 1;", 5, 2);
        fails("loss;", 4, 2);
        fails("loss loss;", 5, 2);
        fails("loss buyer", 10, 2);
        fails("loss pools;", 5, 2);
        fails("loss pool pool;", 10, 2);
        fails("reserve;", 7, 2);
        fails("reserve x", 8, 2);
        fails("reserve 1;", 9, 2);
        fails("reserve 1 2 3;", 12, 2);
        fails("part 1", 6, 2);
        fails("part 1 2", 8, 2);
    }

    private static void numberNotAsTold() {
        fails("rot 51;", 4, 3);
        fails("rot 9999", 4, 3);
        fails("reserve 4 1;", 8, 3);
        fails("part 4 1;", 5, 3);
        fails("part 0 101;", 7, 3);
        fails("part 0 \n 9999;", 9, 3);
    }

    private static void toldTwice() {
        fails("rot 1;rot 1;", 6, 4);
        fails("rot 1; rot", 7, 4);
        fails("loss pool;loss buyer;", 10, 4);
        fails("reserve 2 1;reserve 2 1;", 20, 4);
        fails("reserve 2 1;reserve 02", 20, 4);
        fails("part 3 1;part 2 1; part 3 1;", 24, 4);
        stands("reserve 2 1;part 2 1;reserve 1 1;", 3);
    }

    private static void firstAlongTheText() {
        fails("rot 51 !", 4, 3);
        fails("! rot 51", 0, 1);
        fails("rot 1;rot 51;", 6, 4);
        fails("rot 51;rot 1;", 4, 3);
        fails("reserve 0 1;reserve 4 1;", 20, 3);
        fails("reserve 1 1;reserve 1 zz", 20, 4);
        fails("part 1 1;part 1x 1;", 14, 1);
    }

    private static void rulesStayBehindAFault() {
        FruitHalls x = new FruitHalls();
        due.same("two rules", 2, Due.rules(x, "rot 50;reserve 0 7;"));
        due.same("a fault behind a good rule", -13, Due.rules(x, "rot 0; part q"));
        due.same("its kind", 2, x.fault());
        due.same("count(3) stays", 2, x.count(3));
        x.lot(0, 0, 0, 100, 0);
        x.next();
        due.same("rot 50 stays", 50, x.about(0, 3));
        due.same("another text", 1, Due.rules(x, "part 0 0;"));
        due.same("the fault is gone", 0, x.fault());
        x.next();
        due.same("rot is 0 where it is not told", 50, x.about(0, 3));
        x.money(0, 100);
        x.want(0, 0, 0, 50, 2);
        due.same("reserve is 0 where it is not told", 1, x.auction(0));
        due.same("part 0", 0, x.pay(0, 2));
        due.same("an empty text", 0, x.rules());
        due.same("part is 1 where it is not told", 50, x.pay(0, 2));
        due.same("count(3) of an empty text", 0, x.count(3));
    }

    private static void highestByteFirst() {
        FruitHalls x = new FruitHalls();
        due.same("'rot 30;'", 20, x.feed(0x726f7420, 0x33303b00, 0, 0, 0));
        due.yes("end(7)", x.end(7));
        due.same("rules()", 1, x.rules());
        x.lot(0, 0, 0, 10, 0);
        x.next();
        due.same("rot 30", 7, x.about(0, 3));
        due.same("20 bytes", 20, x.feed(0x6c6f7373, 0x20627579, 0x65723b20, 0x726f7420, 0x35303b0a));
        due.same("rules() of all 20", 2, x.rules());
    }
}
