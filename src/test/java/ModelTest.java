import java.util.Arrays;
import java.util.NoSuchElementException;
import java.util.Random;

/** Runs of chosen calls on the class and on the Model side by side; the seeds are fixed. */
public final class ModelTest {
    private static final int RUNS = 400;
    private static final String[] WORDS = {
        "reserve", "part", "rot", "loss", "buyer", "pool", ";", "0", "1", "2", "3", "4", "50", "51", "100", "101",
        "9999", "10000", "x", "rot1", "-", "\n", "  ",
    };

    private final Due due;
    private final Random random;
    private final FruitHalls x = new FruitHalls();
    private final Model m = new Model();
    private final String run;
    private final int halls;
    private final int grades;
    private final int limits;

    private ModelTest(Due due, int seed) {
        this.due = due;
        this.random = new Random(seed);
        this.run = "run " + seed + ": ";
        this.halls = 1 + random.nextInt(4);
        this.grades = 1 + random.nextInt(4);
        this.limits = random.nextBoolean() ? 12 : 10000;
    }

    public static void main(String[] args) {
        Due due = new Due();
        for (int seed = 0; seed < RUNS; seed++) {
            ModelTest test = new ModelTest(due, seed);
            if (seed % 10 == 0) {
                test.bringLots(100);
            }
            for (int step = 0; step < 120; step++) {
                test.step();
            }
            test.compareAll();
        }
        texts(due);
        cars(due);
        due.finish("ModelTest");
    }

    private void step() {
        int kind = random.nextInt(100);
        if (kind < 28) {
            bringLots(1);
        } else if (kind < 40) {
            int buyer = random.nextInt(10);
            int cents = random.nextBoolean() ? 1000000 : random.nextInt(3000);
            m.money[buyer] = cents;
            m.left[buyer] = cents;
            due.yes(run + "money", x.money(buyer, cents));
        } else if (kind < 65) {
            want();
        } else if (kind < 75) {
            int hall = random.nextInt(halls);
            due.same(run + "auction", m.auction(hall), x.auction(hall));
        } else if (kind < 85) {
            int k = random.nextInt(m.sales.size() + 1);
            due.same(run + "reject", m.reject(k) ? 1 : 0, x.reject(k) ? 1 : 0);
        } else if (kind < 93) {
            due.same(run + "next", m.next(), x.next());
        } else if (kind < 97) {
            rules(due, run, x, m, goodText());
        } else {
            compareSome();
        }
    }

    private void bringLots(int lots) {
        for (int k = 0; k < lots; k++) {
            int[] a = {random.nextInt(8), random.nextInt(6), random.nextInt(grades), boxes(), random.nextInt(halls)};
            due.same(run + "lot", m.lot(a[0], a[1], a[2], a[3], a[4]), x.lot(a[0], a[1], a[2], a[3], a[4]));
        }
    }

    private int boxes() {
        return random.nextInt(4) == 0 ? 1 + random.nextInt(500) : 1 + random.nextInt(20);
    }

    private void want() {
        int buyer = random.nextInt(10);
        int hall = random.nextInt(halls);
        int grade = random.nextInt(grades);
        int boxes = random.nextInt(random.nextBoolean() ? 5001 : 60);
        int limit = random.nextInt(limits);
        m.boxes[buyer][hall][grade] = boxes;
        m.limit[buyer][hall][grade] = limit;
        due.yes(run + "want", x.want(buyer, hall, grade, boxes, limit));
    }

    private String goodText() {
        StringBuilder text = new StringBuilder();
        for (int g = 0; g < 4; g++) {
            if (random.nextInt(3) == 0) {
                text.append("reserve ").append(g).append(' ').append(random.nextInt(9)).append(";\n");
            }
            if (random.nextInt(3) == 0) {
                text.append("part ").append(g).append(' ').append(random.nextInt(101)).append(';');
            }
        }
        if (random.nextBoolean()) {
            text.append("rot ").append(random.nextInt(51)).append(" ;");
        }
        if (random.nextInt(4) != 0) {
            text.append(random.nextInt(3) != 0 ? "loss buyer;" : "loss pool;");
        }
        return text.toString();
    }

    private void compareSome() {
        int t = random.nextInt(m.day + 2) - 1;
        due.same(run + "pool", m.pool(t), x.pool(t));
        int grower = random.nextInt(8);
        due.same(run + "pay", m.pay(t)[grower], x.pay(grower, t));
        compareWorth(random.nextInt(6), t);
    }

    private void compareAll() {
        due.same(run + "count(0)", m.day, x.count(0));
        due.same(run + "count(1)", m.lots.size(), x.count(1));
        due.same(run + "count(2)", m.sales.size(), x.count(2));
        due.same(run + "count(3)", m.told, x.count(3));
        for (Model.Lot lot : m.lots) {
            int last = lot.sales.isEmpty() ? -1 : lot.sales.get(lot.sales.size() - 1).number;
            int[] known = {lot.grower, lot.mark, lot.grade, lot.boxes, lot.hall, lot.sold ? 1 : 0, last};
            for (int what = 0; what < 7; what++) {
                due.same(run + "about(" + lot.number + ", " + what + ")", known[what], x.about(lot.number, what));
            }
        }
        for (Model.Sale s : m.sales) {
            int[] known = {s.lot.number, s.buyer, s.day, s.boxes, s.price, s.rejected, m.claim(s)};
            for (int what = 0; what < 7; what++) {
                due.same(run + "sale(" + s.number + ", " + what + ")", known[what], x.sale(s.number, what));
            }
        }
        for (int buyer = 0; buyer < 10; buyer++) {
            due.same(run + "left(" + buyer + ")", m.left[buyer], x.left(buyer));
            for (int k = 0; k < 16; k++) {
                due.same(run + "wanted", m.boxes[buyer][k / 4][k % 4], x.wanted(buyer, k / 4, k % 4));
            }
        }
        for (int t = -1; t <= m.day + 1; t++) {
            compareDay(t);
        }
    }

    private void compareDay(int t) {
        due.same(run + "pool(" + t + ")", m.pool(t), x.pool(t));
        int[] pay = m.pay(t);
        for (int g = 0; g < 8; g++) {
            due.same(run + "pay(" + g + ", " + t + ")", pay[g], x.pay(g, t));
        }
        for (int mark = 0; mark < 6; mark++) {
            compareWorth(mark, t);
        }
        for (int k = 0; k < 64 && t >= 0; k++) {
            due.same(run + "wire", m.wire(k / 16, k / 4 % 4, t, k % 4), x.wire(k / 16, k / 4 % 4, t, k % 4));
        }
    }

    private void compareWorth(int mark, int t) {
        long[] worth = m.worth(mark, t);
        for (int what = 0; what < 2; what++) {
            int w = what;
            if (worth == null) {
                due.noSuchElement(run + "worth(" + mark + ", " + t + ")", () -> x.worth(mark, t, w));
            } else {
                due.same(run + "worth(" + mark + ", " + t + ", " + w + ")", worth[w], worthOrNone(mark, t, w));
            }
        }
    }

    private long worthOrNone(int mark, int t, int what) {
        try {
            return x.worth(mark, t, what);
        } catch (NoSuchElementException e) {
            return Long.MIN_VALUE;
        }
    }

    private static void rules(Due due, String run, FruitHalls x, Model m, String text) {
        String shown = run + "'" + text.replace('\n', '~') + "' ";
        due.same(shown + "rules", m.rules(text), Due.rules(x, text));
        due.same(shown + "fault", m.fault, x.fault());
        due.same(shown + "count(3)", m.told, x.count(3));
    }

    /** Texts of words that mostly fit together, now and then with one sign changed. */
    private static void texts(Due due) {
        Random random = new Random(7);
        for (int i = 0; i < 20000; i++) {
            String text = i % 2 == 0 ? anyText(random) : new ModelTest(due, random.nextInt()).goodText();
            if (random.nextBoolean() && !text.isEmpty()) {
                int at = random.nextInt(text.length());
                String signs = "ab09; \n\t{/:A" + (char) 255;
                text = text.substring(0, at) + signs.charAt(random.nextInt(signs.length())) + text.substring(at + 1);
            }
            if (random.nextInt(4) == 0) {
                text = text.substring(0, random.nextInt(text.length() + 1));
            }
            if (text.length() <= 200) {
                rules(due, "text " + i, new FruitHalls(), new Model(), text);
            }
        }
    }

    private static String anyText(Random random) {
        StringBuilder text = new StringBuilder();
        String[] starts = {"reserve 0 ", "part 3 ", "rot ", "loss ", "reserve ", "part "};
        for (int k = random.nextInt(6); k >= 0; k--) {
            text.append(starts[random.nextInt(starts.length)]);
            for (int w = random.nextInt(3); w >= 0; w--) {
                text.append(WORDS[random.nextInt(WORDS.length)]).append(random.nextInt(3) == 0 ? "" : " ");
            }
            text.append(random.nextInt(4) == 0 ? "" : ";");
        }
        return text.toString();
    }

    private static void cars(Due due) {
        Random random = new Random(8);
        FruitHalls x = new FruitHalls();
        Model m = new Model();
        for (int i = 0; i < 1500; i++) {
            int most = i % 3 == 0 ? 65536 : i % 3 == 1 ? 30 : 4;
            int[] terms = new int[8];
            for (int k = 0; k < 8; k++) {
                terms[k] = random.nextInt(k % 2 == 0 ? most : 1 + most / 4);
            }
            int n = i % 10 == 0 ? 40 : 1 + random.nextInt(12);
            String shown = "cars " + n + " of " + Arrays.toString(terms);
            due.same(shown, m.cars(n, terms), Due.cars(x, n, terms));
            for (int h = 0; h < 4; h++) {
                due.same(shown + ": sent(" + h + ")", m.sent[h], x.sent(h));
            }
        }
    }
}
