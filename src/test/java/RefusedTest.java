import java.util.NoSuchElementException;

/**
 * "A call that throws changes nothing", and so does one that answers NONE or false, or only tells. Each such call is
 * made on one of two objects that had the same calls ahead; then both must answer everything alike.
 */
public final class RefusedTest {
    interface OnHalls {
        long answer(FruitHalls x);
    }

    private static final Due due = new Due();
    private static final int WRONG_LOW = -1;

    public static void main(String[] args) {
        lotsThatAreRefused();
        moneyAndWantsThatAreRefused();
        auctionsAndRejectionsThatAreRefused();
        tapesThatAreRefused();
        callsThatThrow();
        callsThatOnlyTell();
        carsThatAreRefusedEmptyTheTapeAlone();
        faultyRulesEmptyTheTapeAlone();
        due.finish("RefusedTest");
    }

    /** Halls with something of everything: lots waiting, sold, rejected and sold again, a fault, cars, a tape. */
    private static FruitHalls busy() {
        FruitHalls x = new FruitHalls();
        Due.rules(x, "reserve 1 3;part 2 7;rot 20;loss buyer;");
        x.money(0, 5000);
        x.money(3, 900);
        x.want(0, 0, 1, 60, 9);
        x.want(3, 0, 1, 50, 8);
        x.want(3, 2, 2, 40, 4);
        x.lot(1, 2, 1, 10, 0);
        x.lot(6, 3, 2, 20, 2);
        x.auction(0);
        x.next();
        x.reject(0);
        x.want(3, 0, 1, 50, 5);
        x.auction(0);
        x.auction(2);
        x.lot(1, 0, 1, 5, 0);
        x.lot(2, 2, 2, 7, 2);
        Due.cars(x, 5, 9, 2, 8, 1, 0, 0, 7, 7);
        Due.rules(x, "rot 20; ?");
        Due.tape(x, "loss pool;rot 5;");
        return x;
    }

    /** All that an object can tell, and what it does then: limits and the tape's bytes show by that alone. */
    private static String everything(FruitHalls x) {
        StringBuilder all = new StringBuilder();
        for (int what = 0; what <= 4; what++) {
            all.append("count ").append(x.count(what)).append('\n');
        }
        all.append("fault ").append(x.fault()).append('\n');
        for (int hall = 0; hall < 4; hall++) {
            all.append("sent ").append(x.sent(hall)).append('\n');
        }
        for (int buyer = 0; buyer < 10; buyer++) {
            all.append("left ").append(x.left(buyer)).append('\n');
        }
        for (int k = 0; k < 160; k++) {
            all.append("wanted ").append(k).append(' ').append(x.wanted(k / 16, k / 4 % 4, k % 4)).append('\n');
        }
        tellLotsAndSales(x, all);
        tellDays(x, all);
        for (int hall = 0; hall < 4; hall++) {
            all.append("auction ").append(x.auction(hall)).append('\n');
        }
        for (int s = 0; s < x.count(2); s++) {
            all.append("price ").append(x.sale(s, 4)).append('\n');
        }
        all.append("rules ").append(x.rules()).append(' ').append(x.fault()).append(' ').append(x.count(3)).append('\n');
        all.append("next ").append(x.next()).append(" boxes ").append(x.about(3, 3)).append('\n');
        return all.append("left ").append(x.left(0)).append(' ').append(x.left(3)).toString();
    }

    private static void tellLotsAndSales(FruitHalls x, StringBuilder all) {
        for (int k = 0; k < x.count(1); k++) {
            for (int what = 0; what < 7; what++) {
                all.append("about ").append(k).append(' ').append(x.about(k, what)).append('\n');
            }
        }
        for (int s = 0; s < x.count(2); s++) {
            for (int what = 0; what < 7; what++) {
                all.append("sale ").append(s).append(' ').append(x.sale(s, what)).append('\n');
            }
        }
    }

    private static void tellDays(FruitHalls x, StringBuilder all) {
        for (int day = 0; day < 2; day++) {
            all.append("pool ").append(x.pool(day)).append('\n');
            for (int grower = 0; grower < 8; grower++) {
                all.append("pay ").append(x.pay(grower, day)).append('\n');
            }
            for (int mark = 2; mark < 4; mark++) {
                all.append("worth ").append(worth(x, mark, day)).append('\n');
            }
            for (int k = 0; k < 16; k++) {
                all.append("wire ").append(x.wire(k / 4, k % 4, day, 1)).append('\n');
            }
        }
    }

    private static String worth(FruitHalls x, int mark, int day) {
        try {
            return x.worth(mark, day, 0) + "/" + x.worth(mark, day, 1);
        } catch (NoSuchElementException e) {
            return "none";
        }
    }

    private static void alike(String what, FruitHalls untouched, FruitHalls touched) {
        String[] dueLines = everything(untouched).split("\n");
        String[] gotLines = everything(touched).split("\n");
        due.same(what + ": so many answers", dueLines.length, gotLines.length);
        for (int i = 0; i < Math.min(dueLines.length, gotLines.length); i++) {
            due.yes(what + " changed '" + dueLines[i] + "' to '" + gotLines[i] + "'", dueLines[i].equals(gotLines[i]));
        }
    }

    private static void refused(String what, long answer, OnHalls call) {
        FruitHalls touched = busy();
        due.same(what, answer, call.answer(touched));
        alike(what, busy(), touched);
    }

    private static void throwing(String what, OnHalls call) {
        FruitHalls touched = busy();
        due.noSuchElement(what, () -> call.answer(touched));
        alike(what, busy(), touched);
    }

    private static void telling(String what, OnHalls call) {
        FruitHalls touched = busy();
        long first = call.answer(touched);
        due.same(what + " told again", first, call.answer(touched));
        alike(what, busy(), touched);
    }

    /** Promise 6: "NONE: there are 100, or a number is not as told". */
    private static void lotsThatAreRefused() {
        refused("lot of GROWER 8", -1, x -> x.lot(8, 0, 0, 1, 0));
        refused("lot of MARK 6", -1, x -> x.lot(0, 6, 0, 1, 0));
        refused("lot of GRADE 4", -1, x -> x.lot(0, 0, 4, 1, 0));
        refused("lot of 0 BOXES", -1, x -> x.lot(0, 0, 0, 0, 0));
        refused("lot of 501 BOXES", -1, x -> x.lot(0, 0, 0, 501, 0));
        refused("lot in HALL 4", -1, x -> x.lot(0, 0, 0, 1, 4));
        refused("lot of all too low", -1, x -> x.lot(WRONG_LOW, WRONG_LOW, WRONG_LOW, WRONG_LOW, WRONG_LOW));
    }

    /** Promises 7 and 8: "false, if they are not as told". */
    private static void moneyAndWantsThatAreRefused() {
        refused("money of BUYER 10", 0, x -> x.money(10, 5) ? 1 : 0);
        refused("money of BUYER -1", 0, x -> x.money(-1, 5) ? 1 : 0);
        refused("money of 1000001", 0, x -> x.money(0, 1000001) ? 1 : 0);
        refused("money of -1", 0, x -> x.money(0, -1) ? 1 : 0);
        refused("want of BUYER 10", 0, x -> x.want(10, 0, 1, 1, 1) ? 1 : 0);
        refused("want in HALL 4", 0, x -> x.want(0, 4, 1, 1, 1) ? 1 : 0);
        refused("want in HALL -1", 0, x -> x.want(1, -1, 1, 1, 1) ? 1 : 0);
        refused("want of GRADE 4", 0, x -> x.want(0, 0, 4, 1, 1) ? 1 : 0);
        refused("want of GRADE -1", 0, x -> x.want(0, 1, -1, 1, 1) ? 1 : 0);
        refused("want of 5001 BOXES", 0, x -> x.want(0, 0, 1, 5001, 7) ? 1 : 0);
        refused("want of -1 BOXES", 0, x -> x.want(0, 0, 1, -1, 7) ? 1 : 0);
        refused("want at 10000", 0, x -> x.want(0, 0, 1, 1, 10000) ? 1 : 0);
        refused("want at -1", 0, x -> x.want(0, 0, 1, 1, -1) ? 1 : 0);
    }

    /** Promises 9 and 10: "NONE: no such HALL"; "false: no such one, it is REJECTED, or not the last of its LOT". */
    private static void auctionsAndRejectionsThatAreRefused() {
        refused("auction(4)", -1, x -> x.auction(4));
        refused("auction(-1)", -1, x -> x.auction(-1));
        refused("an auction without LOTS", 0, x -> x.auction(3));
        refused("reject of one that is REJECTED, and not the last", 0, x -> x.reject(0) ? 1 : 0);
        refused("reject(-1)", 0, x -> x.reject(-1) ? 1 : 0);
        refused("reject of the SALE to come", 0, x -> x.reject(x.count(2)) ? 1 : 0);
        FruitHalls rejected = busy();
        FruitHalls twice = busy();
        due.yes("reject(1)", rejected.reject(1) && twice.reject(1));
        due.no("reject(1) again", twice.reject(1));
        alike("reject of one that is REJECTED", rejected, twice);
    }

    /** Promises 2 and 3. */
    private static void tapesThatAreRefused() {
        refused("end(17) of 16", 0, x -> x.end(17) ? 1 : 0);
        refused("end(-1)", 0, x -> x.end(-1) ? 1 : 0);
        FruitHalls full = busy();
        FruitHalls fed = busy();
        for (int bytes = 36; bytes <= 196; bytes += 20) {
            due.same("feed", bytes, full.feed(0x20202020, 0x20202020, 0x20202020, 0x20202020, 0x20202020));
            due.same("feed", bytes, fed.feed(0x20202020, 0x20202020, 0x20202020, 0x20202020, 0x20202020));
        }
        due.same("feed at 196", -1, fed.feed(1, 2, 3, 4, 5));
        alike("feed at 196", full, fed);
    }

    /** "A call that throws changes nothing". */
    private static void callsThatThrow() {
        throwing("about(4, 0)", x -> x.about(4, 0));
        throwing("about(-1, 0)", x -> x.about(-1, 0));
        throwing("about(0, 7)", x -> x.about(0, 7));
        throwing("sale(-1, 0)", x -> x.sale(-1, 0));
        throwing("sale of the SALE to come", x -> x.sale(x.count(2), 0));
        throwing("sale(0, 7)", x -> x.sale(0, 7));
        throwing("worth(6, 0, 0)", x -> x.worth(6, 0, 0));
        throwing("worth(2, 0, 2)", x -> x.worth(2, 0, 2));
        throwing("worth(5, 0, 0)", x -> x.worth(5, 0, 0));
        throwing("worth(2, -1, 0)", x -> x.worth(2, -1, 0));
    }

    private static void callsThatOnlyTell() {
        telling("fault", x -> x.fault());
        telling("about", x -> x.about(0, 3));
        telling("sale", x -> x.sale(0, 6));
        telling("left", x -> x.left(3));
        telling("wanted", x -> x.wanted(3, 0, 1));
        telling("pool", x -> x.pool(1));
        telling("pay", x -> x.pay(1, 1));
        telling("worth", x -> x.worth(3, 1, 0));
        telling("wire", x -> x.wire(0, 1, 1, 3));
        telling("sent", x -> x.sent(1));
        telling("count", x -> x.count(4));
        telling("left(10)", x -> x.left(10));
        telling("wanted(0, 4, 0)", x -> x.wanted(0, 4, 0));
        telling("pay(8, 0)", x -> x.pay(8, 0));
        telling("wire(0, 0, 1000, 0)", x -> x.wire(0, 0, 1000, 0));
        telling("sent(4)", x -> x.sent(4));
        telling("count(5)", x -> x.count(5));
    }

    /** Promises 4 ("empty then, here and below"), 20 and 21: all but the tape is as it was. */
    private static void carsThatAreRefusedEmptyTheTapeAlone() {
        int[] wrongNumbers = {0, 41, -1, Integer.MIN_VALUE, Integer.MAX_VALUE};
        for (int n : wrongNumbers) {
            FruitHalls ended = busy();
            ended.end(0);
            FruitHalls sent = busy();
            due.same("cars(" + n + ")", -1, sent.cars(n));
            alike("cars(" + n + ")", ended, sent);
        }
        FruitHalls ended = busy();
        ended.end(0);
        FruitHalls tooFew = busy();
        tooFew.end(15);
        due.same("cars of 15 bytes", -1, tooFew.cars(5));
        alike("cars of 15 bytes", ended, tooFew);
    }

    /** Promise 4: "they stay": a FAULT behind many RULES leaves what a FAULT at once leaves. */
    private static void faultyRulesEmptyTheTapeAlone() {
        FruitHalls atOnce = busy();
        atOnce.end(0);
        Due.rules(atOnce, "?");
        FruitHalls behind = busy();
        behind.end(0);
        due.same("a FAULT behind RULES", -1 - 43, Due.rules(behind, "reserve 1 0;part 2 1;rot 0;loss pool;part 1?"));
        alike("a FAULT behind RULES", atOnce, behind);
    }
}
