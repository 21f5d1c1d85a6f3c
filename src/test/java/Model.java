import java.math.BigInteger;
import java.util.ArrayList;
import java.util.Comparator;
import java.util.List;
import java.util.regex.Matcher;
import java.util.regex.Pattern;

/**
 * The document a second time, by other means than the class (lists, patterns, trying all ways),
 * so that a slip in one of the two shows. It does not check arguments: ModelTest gives it right ones.
 */
final class Model {
    static final class Lot {
        int number;
        int grower;
        int mark;
        int grade;
        int boxes;
        int hall;
        boolean sold;
        final List<Sale> sales = new ArrayList<>();
    }

    static final class Sale {
        int number;
        Lot lot;
        int buyer;
        int day;
        int boxes;
        int price;
        int rejected = -1;

        Sale next() {
            int at = lot.sales.indexOf(this);
            return at + 1 < lot.sales.size() ? lot.sales.get(at + 1) : null;
        }

        boolean isRejectedBy(int t) {
            return rejected >= 0 && rejected <= t;
        }
    }

    final List<Lot> lots = new ArrayList<>();
    final List<Sale> sales = new ArrayList<>();
    final int[] money = new int[10];
    final int[] left = new int[10];
    final int[][][] boxes = new int[10][4][4];
    final int[][][] limit = new int[10][4][4];
    int day = 0;

    int[] reserve = new int[4];
    int[] part = {1, 1, 1, 1};
    int rot = 0;
    boolean lossBuyer = false;
    int told = 0;
    int fault = 0;
    int[] sent = null;

    private static final Pattern TOKEN = Pattern.compile("[ \\n]*+(?:([a-z0-9]+)|(.)|\\z)", Pattern.DOTALL);

    int rules(String text) {
        Model draft = new Model();
        List<String> seen = new ArrayList<>();
        Matcher m = TOKEN.matcher(text);
        String state = "rule";
        String word = "";
        int grade = 0;
        int at = 0;
        while (m.find(at)) {
            String token = m.group(1) != null ? m.group(1) : m.group(2) != null ? m.group(2) : "";
            int place = m.end() - token.length();
            at = m.end();
            if (token.isEmpty() && state.equals("rule")) {
                take(draft);
                fault = 0;
                return told;
            }
            if (!token.isEmpty() && !token.matches("[a-z]+|[0-9]{1,4}|;")) {
                return faultAt(1, place);
            }
            if (!token.matches(canCome(state))) {
                return faultAt(2, place);
            }
            if (token.matches("[0-9]+") && Integer.parseInt(token) > most(state, word)) {
                return faultAt(3, place);
            }
            String name = "";
            switch (state) {
                case "rule":
                    word = token;
                    state = word.equals("loss") ? "whom" : word.equals("rot") ? "number" : "grade";
                    name = state.equals("grade") ? "" : word;
                    break;
                case "grade":
                    grade = Integer.parseInt(token);
                    name = word + grade;
                    state = "number";
                    break;
                case "number":
                    draft.set(word, grade, Integer.parseInt(token));
                    state = "finish";
                    break;
                case "whom":
                    draft.lossBuyer = token.equals("buyer");
                    state = "finish";
                    break;
                default:
                    draft.told++;
                    state = "rule";
                    break;
            }
            if (!name.isEmpty() && seen.contains(name)) {
                return faultAt(4, place);
            }
            seen.add(name);
        }
        throw new AssertionError("the text has an end");
    }

    private static String canCome(String state) {
        switch (state) {
            case "rule":
                return "reserve|part|rot|loss";
            case "whom":
                return "buyer|pool";
            case "finish":
                return ";";
            default:
                return "[0-9]+";
        }
    }

    private static int most(String state, String word) {
        if (state.equals("grade")) {
            return 3;
        }
        return word.equals("reserve") ? 9999 : word.equals("part") ? 100 : 50;
    }

    private void set(String word, int grade, int number) {
        if (word.equals("reserve")) {
            reserve[grade] = number;
        } else if (word.equals("part")) {
            part[grade] = number;
        } else {
            rot = number;
        }
    }

    private void take(Model draft) {
        reserve = draft.reserve;
        part = draft.part;
        rot = draft.rot;
        lossBuyer = draft.lossBuyer;
        told = draft.told;
    }

    private int faultAt(int kind, int place) {
        fault = kind;
        return -1 - place;
    }

    int lot(int grower, int mark, int grade, int boxes, int hall) {
        if (lots.size() == 100) {
            return -1;
        }
        Lot lot = new Lot();
        lot.number = lots.size();
        lot.grower = grower;
        lot.mark = mark;
        lot.grade = grade;
        lot.boxes = boxes;
        lot.hall = hall;
        lots.add(lot);
        return lot.number;
    }

    int auction(int hall) {
        List<List<Lot>> offers = new ArrayList<>();
        for (int turn = 0; turn < 8; turn++) {
            List<Lot> ofGrower = new ArrayList<>();
            for (Lot lot : lots) {
                if (lot.grower == (day + turn) % 8 && lot.hall == hall && !lot.sold && lot.boxes > 0) {
                    ofGrower.add(lot);
                }
            }
            offers.add(ofGrower);
        }
        int before = sales.size();
        for (int round = 0; round < 100; round++) {
            for (List<Lot> ofGrower : offers) {
                if (round < ofGrower.size()) {
                    offer(ofGrower.get(round));
                }
            }
        }
        return sales.size() - before;
    }

    private void offer(Lot lot) {
        int h = lot.hall;
        int g = lot.grade;
        List<Integer> bidders = new ArrayList<>();
        for (int b = 0; b < 10; b++) {
            if (boxes[b][h][g] >= lot.boxes && limit[b][h][g] >= Math.max(1, reserve[g])
                    && (long) limit[b][h][g] * lot.boxes <= left[b]) {
                bidders.add(b);
            }
        }
        if (bidders.isEmpty() || sales.size() == 400) {
            return;
        }
        bidders.sort(Comparator.comparing((Integer b) -> -limit[b][h][g]).thenComparing(b -> b));
        Sale sale = new Sale();
        sale.number = sales.size();
        sale.lot = lot;
        sale.buyer = bidders.get(0);
        sale.day = day;
        sale.boxes = lot.boxes;
        sale.price = Math.max(1, reserve[g]);
        if (bidders.size() > 1) {
            sale.price = Math.max(sale.price, limit[bidders.get(1)][h][g]);
        }
        boxes[sale.buyer][h][g] -= lot.boxes;
        left[sale.buyer] -= lot.boxes * sale.price;
        lot.sold = true;
        lot.sales.add(sale);
        sales.add(sale);
    }

    boolean reject(int k) {
        if (k < 0 || k >= sales.size()) {
            return false;
        }
        Sale sale = sales.get(k);
        if (sale.rejected >= 0 || sale.next() != null) {
            return false;
        }
        sale.rejected = day;
        sale.lot.sold = false;
        return true;
    }

    int next() {
        for (Lot lot : lots) {
            if (!lot.sold) {
                lot.boxes -= (int) Math.floor(lot.boxes * rot / 100.0);
            }
        }
        System.arraycopy(money, 0, left, 0, 10);
        day++;
        return day;
    }

    int claim(Sale sale) {
        Sale next = sale.next();
        boolean has = lossBuyer && sale.rejected >= 0 && next != null && next.price < sale.price;
        return has ? (sale.price - next.price) * next.boxes : 0;
    }

    List<Sale> counting(int t) {
        List<Sale> counting = new ArrayList<>();
        for (Sale sale : sales) {
            if (sale.day <= t && !sale.isRejectedBy(t)) {
                counting.add(sale);
            }
        }
        return counting;
    }

    int pool(int t) {
        int pool = 0;
        for (Sale sale : counting(t)) {
            pool += sale.boxes * sale.price;
        }
        for (Sale sale : sales) {
            if (sale.isRejectedBy(t) && sale.next() != null && sale.next().day <= t) {
                pool += claim(sale);
            }
        }
        return pool;
    }

    int[] pay(int t) {
        BigInteger[] weight = new BigInteger[8];
        java.util.Arrays.fill(weight, BigInteger.ZERO);
        BigInteger all = BigInteger.ZERO;
        for (Sale sale : counting(t)) {
            BigInteger w = BigInteger.valueOf((long) sale.boxes * part[sale.lot.grade]);
            weight[sale.lot.grower] = weight[sale.lot.grower].add(w);
            all = all.add(w);
        }
        int[] pay = new int[8];
        if (all.signum() == 0) {
            return pay;
        }
        BigInteger pool = BigInteger.valueOf(pool(t));
        List<Integer> order = new ArrayList<>();
        BigInteger[] rest = new BigInteger[8];
        int over = pool.intValue();
        for (int g = 0; g < 8; g++) {
            BigInteger[] parts = pool.multiply(weight[g]).divideAndRemainder(all);
            pay[g] = parts[0].intValue();
            rest[g] = parts[1];
            over -= pay[g];
            order.add(g);
        }
        order.sort(Comparator.comparing((Integer g) -> rest[g].negate()).thenComparing(g -> g));
        for (int i = 0; i < over; i++) {
            pay[order.get(i)]++;
        }
        return pay;
    }

    /** Upper and lower one; null if no sale of the mark counts. */
    long[] worth(int mark, int t) {
        BigInteger upper = BigInteger.ZERO;
        BigInteger lower = BigInteger.ONE;
        int ofMark = 0;
        for (Sale sale : counting(t)) {
            if (sale.lot.mark == mark) {
                long prices = 0;
                long of = 0;
                for (Sale other : counting(t)) {
                    if (other.lot.grade == sale.lot.grade) {
                        prices += other.price;
                        of++;
                    }
                }
                BigInteger difference = BigInteger.valueOf(sale.price * of - prices);
                upper = upper.multiply(BigInteger.valueOf(of)).add(difference.multiply(lower));
                lower = lower.multiply(BigInteger.valueOf(of));
                ofMark++;
            }
        }
        if (ofMark == 0) {
            return null;
        }
        lower = lower.multiply(BigInteger.valueOf(ofMark));
        BigInteger gcd = upper.gcd(lower);
        return new long[] {upper.divide(gcd).longValueExact(), lower.divide(gcd).longValueExact()};
    }

    int wire(int hall, int grade, int day, int what) {
        List<Integer> prices = new ArrayList<>();
        int together = 0;
        for (Sale sale : counting(day)) {
            if (sale.day == day && sale.lot.hall == hall && sale.lot.grade == grade) {
                prices.add(sale.price);
                together += sale.boxes;
            }
        }
        prices.sort(null);
        if (prices.isEmpty()) {
            return 0;
        }
        int[] answers = {prices.size(), together, prices.get(0), prices.get(prices.size() - 1)};
        return answers[what];
    }

    int cars(int n, int[] terms) {
        int best = -1;
        for (int a = n; a >= 0; a--) {
            for (int b = n - a; b >= 0; b--) {
                for (int c = n - a - b; c >= 0; c--) {
                    int[] cars = {a, b, c, n - a - b - c};
                    int worth = 0;
                    for (int h = 0; h < 4; h++) {
                        for (int i = 0; i < cars[h]; i++) {
                            worth += Math.max(0, terms[2 * h] - i * terms[2 * h + 1]);
                        }
                    }
                    if (worth > best) {
                        best = worth;
                        sent = cars;
                    }
                }
            }
        }
        return best;
    }
}
