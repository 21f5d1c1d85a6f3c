/** Promises 20 and 21: cars, sent. */
public final class CarsTest {
    private static final Due due = new Due();

    public static void main(String[] args) {
        FruitHalls x = new FruitHalls();
        due.same("sent ahead of any", -1, x.sent(0));
        due.same("no bytes", -1, x.cars(1));
        due.same("15 bytes", -1, carsOfBytes(x, 15));
        due.same("17 bytes", -1, carsOfBytes(x, 17));
        due.same("20 bytes", -1, carsOfBytes(x, 20));
        due.same("the tape is empty behind NONE", 0, x.count(4));
        due.same("sent still ahead of any", -1, x.sent(0));
        due.same("cars(0)", -1, Due.cars(x, 0, 1, 1, 1, 1, 1, 1, 1, 1));
        due.same("cars(-1)", -1, Due.cars(x, -1, 1, 1, 1, 1, 1, 1, 1, 1));
        due.same("cars(41)", -1, Due.cars(x, 41, 1, 1, 1, 1, 1, 1, 1, 1));
        due.same("the tape is empty behind a wrong n", 0, x.count(4));

        due.same("hall 3 alone", 65535, Due.cars(x, 1, 0, 0, 0, 0, 0, 0, 65535, 0));
        isSent(x, 0, 0, 0, 1);
        due.same("the tape is empty behind cars", 0, x.count(4));
        due.same("worths fall", 30 + 20 + 18 + 15 + 12, Due.cars(x, 5, 30, 10, 18, 3, 1, 0, 2, 1));
        isSent(x, 2, 3, 0, 0);
        due.same("like ones go to the first halls", 7 * 4, Due.cars(x, 4, 7, 7, 7, 0, 7, 0, 7, 0));
        isSent(x, 1, 3, 0, 0);
        due.same("what is worth nothing goes to hall 0", 5, Due.cars(x, 40, 0, 0, 5, 9, 0, 5, 0, 1));
        isSent(x, 39, 1, 0, 0);
        due.same("0 at least", 3 + 1, Due.cars(x, 3, 3, 2, 0, 0, 0, 0, 0, 0));
        isSent(x, 3, 0, 0, 0);
        due.same("NONE leaves what was sent", -1, Due.cars(x, 41, 0, 0, 0, 0, 0, 0, 9, 9));
        isSent(x, 3, 0, 0, 0);
        due.same("sent(-1)", -1, x.sent(-1));
        due.same("sent(4)", -1, x.sent(4));
        due.finish("CarsTest");
    }

    private static int carsOfBytes(FruitHalls x, int bytes) {
        Due.tape(x, new byte[bytes]);
        return x.cars(1);
    }

    private static void isSent(FruitHalls x, int... halls) {
        for (int h = 0; h < 4; h++) {
            due.same("sent(" + h + ")", halls[h], x.sent(h));
        }
    }
}
