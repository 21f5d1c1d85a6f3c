import java.util.NoSuchElementException;

/** Halls where fruit is sold by auction. The document DOC.md says what each call promises. */
public final class FruitHalls {
    public static final int NONE = -1;

    private static final int LAST_DAY = 999;
    private static final int HALLS = 4;
    private static final int BUYERS = 10;
    private static final int GROWERS = 8;
    private static final int MARKS = 6;
    private static final int GRADES = 4;

    private static final int LOTS_MOST = 100;
    private static final int LOT_BOXES_MOST = 500;
    private static final int SALES_MOST = 400;
    private static final int MONEY_MOST = 1000000;
    private static final int WANT_BOXES_MOST = 5000;
    private static final int LIMIT_MOST = 9999;

    private static final int TAPE_MOST = 200;
    private static final int FEED_BYTES = 20;
    private static final int CAR_BYTES = 16;
    private static final int CARS_MOST = 40;

    private final Tape tape;
    private final Rules ruling;
    private final RuleReader reader;
    private final Lots lots;
    private final Sales sales;
    private final Buyers buyers;
    private final Payout payout;
    private final Premium premium;
    private final Freight freight;
    private final int[] offeredUpTo;
    private int today;
    private int latestFault;

    public FruitHalls() {
        tape = new Tape();
        ruling = new Rules();
        reader = new RuleReader(tape);
        lots = new Lots();
        sales = new Sales();
        buyers = new Buyers();
        payout = new Payout(lots, sales, ruling);
        premium = new Premium(lots, sales);
        freight = new Freight();
        offeredUpTo = new int[GROWERS];
        today = 0;
        latestFault = 0;
    }

    public int feed(int a, int b, int c, int d, int e) {
        if (tape.size + FEED_BYTES > TAPE_MOST) {
            return NONE;
        }
        tape.append(a);
        tape.append(b);
        tape.append(c);
        tape.append(d);
        tape.append(e);
        return tape.size;
    }

    public boolean end(int n) {
        if (n < 0 || n > tape.size) {
            return false;
        }
        tape.size = n;
        return true;
    }

    public int rules() {
        reader.read();
        tape.size = 0;
        latestFault = reader.faultKind;
        if (latestFault != 0) {
            return -1 - reader.faultPlace;
        }
        ruling.copy(reader.draft);
        return ruling.told;
    }

    public int fault() {
        return latestFault;
    }

    public int lot(int grower, int mark, int grade, int boxes, int hall) {
        boolean asTold = isBelow(grower, GROWERS) && isBelow(mark, MARKS) && isBelow(grade, GRADES)
                && boxes >= 1 && boxes <= LOT_BOXES_MOST && isBelow(hall, HALLS);
        if (!asTold || lots.size >= LOTS_MOST) {
            return NONE;
        }
        return lots.add(grower, mark, grade, boxes, hall);
    }

    public boolean money(int buyer, int cents) {
        if (!isBelow(buyer, BUYERS) || cents < 0 || cents > MONEY_MOST) {
            return false;
        }
        buyers.purse[buyer] = cents;
        buyers.unspent[buyer] = cents;
        return true;
    }

    public boolean want(int buyer, int hall, int grade, int boxes, int limit) {
        boolean asTold = isWantPlace(buyer, hall, grade)
                && boxes >= 0 && boxes <= WANT_BOXES_MOST && limit >= 0 && limit <= LIMIT_MOST;
        if (!asTold) {
            return false;
        }
        int place = Buyers.wantPlace(buyer, hall, grade);
        buyers.wantBoxes[place] = boxes;
        buyers.wantLimit[place] = limit;
        return true;
    }

    public int auction(int hall) {
        if (!isBelow(hall, HALLS)) {
            return NONE;
        }
        for (int g = 0; g < GROWERS; g++) {
            offeredUpTo[g] = 0;
        }
        int salesAhead = sales.size;
        boolean offering = true;
        for (int round = 0; round < LOTS_MOST && offering; round++) {
            offering = offerRound(hall);
        }
        return sales.size - salesAhead;
    }

    public boolean reject(int k) {
        if (!isBelow(k, sales.size) || sales.rejectedOn[k] != NONE) {
            return false;
        }
        int lot = sales.ofLot[k];
        if (lots.lastSale[lot] != k) {
            return false;
        }
        sales.rejectedOn[k] = today;
        lots.sold[lot] = false;
        return true;
    }

    public int next() {
        if (today >= LAST_DAY) {
            return NONE;
        }
        lots.rotWaiting(ruling.rot);
        buyers.restoreMoney();
        today++;
        return today;
    }

    public int about(int k, int what) throws NoSuchElementException {
        if (!isBelow(k, lots.size)) {
            throw new NoSuchElementException("no such lot");
        }
        switch (what) {
            case 0:
                return lots.grower[k];
            case 1:
                return lots.mark[k];
            case 2:
                return lots.grade[k];
            case 3:
                return lots.boxes[k];
            case 4:
                return lots.hall[k];
            case 5:
                return lots.sold[k] ? 1 : 0;
            case 6:
                return lots.lastSale[k];
            default:
                throw new NoSuchElementException("nothing of a lot has this number");
        }
    }

    public int sale(int k, int what) throws NoSuchElementException {
        if (!isBelow(k, sales.size)) {
            throw new NoSuchElementException("no such sale");
        }
        switch (what) {
            case 0:
                return sales.ofLot[k];
            case 1:
                return sales.buyer[k];
            case 2:
                return sales.day[k];
            case 3:
                return sales.boxes[k];
            case 4:
                return sales.price[k];
            case 5:
                return sales.rejectedOn[k];
            case 6:
                return payout.claimOf(k);
            default:
                throw new NoSuchElementException("nothing of a sale has this number");
        }
    }

    public int left(int buyer) {
        return isBelow(buyer, BUYERS) ? buyers.unspent[buyer] : NONE;
    }

    public int wanted(int buyer, int hall, int grade) {
        if (!isWantPlace(buyer, hall, grade)) {
            return NONE;
        }
        return buyers.wantBoxes[Buyers.wantPlace(buyer, hall, grade)];
    }

    public int pool(int day) {
        return (int) payout.poolAsOf(day);
    }

    public int pay(int grower, int day) {
        return isBelow(grower, GROWERS) ? (int) payout.shareOf(grower, day) : NONE;
    }

    public long worth(int mark, int day, int what) throws NoSuchElementException {
        if (!isBelow(mark, MARKS)) {
            throw new NoSuchElementException("no such mark");
        }
        if (what != 0 && what != 1) {
            throw new NoSuchElementException("nothing of a worth has this number");
        }
        if (!premium.reckon(mark, day)) {
            throw new NoSuchElementException("no sale of the mark counts");
        }
        return what == 0 ? premium.upper : premium.lower;
    }

    public int wire(int hall, int grade, int day, int what) {
        boolean asTold = isBelow(hall, HALLS) && isBelow(grade, GRADES)
                && day >= 0 && day <= LAST_DAY && what >= 0 && what <= 3;
        if (!asTold) {
            return NONE;
        }
        int told = 0;
        int boxes = 0;
        int least = 0;
        int greatest = 0;
        for (int s = 0; s < sales.size; s++) {
            if (isWired(s, hall, grade, day)) {
                int price = sales.price[s];
                least = told == 0 ? price : Math.min(least, price);
                greatest = Math.max(greatest, price);
                boxes += sales.boxes[s];
                told++;
            }
        }
        switch (what) {
            case 0:
                return told;
            case 1:
                return boxes;
            case 2:
                return least;
            default:
                return greatest;
        }
    }

    public int cars(int n) {
        boolean asTold = tape.size == CAR_BYTES && n >= 1 && n <= CARS_MOST;
        int together = asTold ? freight.dispatch(tape, n) : NONE;
        tape.size = 0;
        return together;
    }

    public int sent(int hall) {
        return freight.dispatched && isBelow(hall, HALLS) ? freight.carsTo[hall] : NONE;
    }

    public int count(int what) {
        switch (what) {
            case 0:
                return today;
            case 1:
                return lots.size;
            case 2:
                return sales.size;
            case 3:
                return ruling.told;
            case 4:
                return tape.size;
            default:
                return NONE;
        }
    }

    private static boolean isBelow(int number, int bound) {
        return number >= 0 && number < bound;
    }

    private static boolean isWantPlace(int buyer, int hall, int grade) {
        return isBelow(buyer, BUYERS) && isBelow(hall, HALLS) && isBelow(grade, GRADES);
    }

    /** Offers the next lot of each grower who still has one; false when none has. */
    private boolean offerRound(int hall) {
        boolean offered = false;
        for (int turn = 0; turn < GROWERS; turn++) {
            int grower = (today + turn) % GROWERS;
            // A lot ahead of this place has had its turn, so what is sold now can't shift later rounds.
            int lot = lots.nextOffered(grower, hall, offeredUpTo[grower]);
            offeredUpTo[grower] = lot + 1;
            if (lot < lots.size) {
                offerLot(lot);
                offered = true;
            }
        }
        return offered;
    }

    private void offerLot(int lot) {
        if (sales.size >= SALES_MOST) {
            return;
        }
        int boxes = lots.boxes[lot];
        int reserve = ruling.reserve[lots.grade[lot]];
        int winner = NONE;
        int winning = 0;
        int second = 0;
        for (int b = 0; b < BUYERS; b++) {
            int limit = buyers.bidOf(b, lots.hall[lot], lots.grade[lot], boxes, reserve);
            if (limit > winning) {
                second = winning;
                winning = limit;
                winner = b;
            } else {
                second = Math.max(second, limit);
            }
        }
        if (winner != NONE) {
            sell(lot, winner, Math.max(Math.max(second, reserve), 1));
        }
    }

    private void sell(int lot, int buyer, int price) {
        int boxes = lots.boxes[lot];
        buyers.take(buyer, Buyers.wantPlace(buyer, lots.hall[lot], lots.grade[lot]), boxes, price);
        int sold = sales.add(lot, buyer, today, boxes, price);
        int ahead = lots.lastSale[lot];
        if (ahead != NONE) {
            sales.soldAgainBy[ahead] = sold;
        }
        lots.lastSale[lot] = sold;
        lots.sold[lot] = true;
    }

    private boolean isWired(int s, int hall, int grade, int day) {
        int lot = sales.ofLot[s];
        return sales.day[s] == day && lots.hall[lot] == hall && lots.grade[lot] == grade
                && sales.countsAsOf(s, day);
    }

    /** The bytes that were fed and not yet used. */
    private static final class Tape {
        private final int[] bytes = new int[TAPE_MOST];
        private int size = 0;

        void append(int number) {
            if (size + 4 > TAPE_MOST) {
                return;
            }
            bytes[size] = number >>> 24;
            bytes[size + 1] = (number >>> 16) & 255;
            bytes[size + 2] = (number >>> 8) & 255;
            bytes[size + 3] = number & 255;
            size += 4;
        }

        /** The byte at a place; 0, which no rule can hold, behind the end. */
        int byteAt(int place) {
            // isBelow is not called here: the reader of rules stands eight calls deep already.
            return place >= 0 && place < size ? bytes[place] : 0;
        }

        int pairAt(int place) {
            return byteAt(place) * 256 + byteAt(place + 1);
        }
    }

    /** What the rules say, told or not. */
    private static final class Rules {
        private final int[] reserve = new int[GRADES];
        private final int[] part = new int[GRADES];
        private int rot;
        private boolean lossOnBuyer;
        private int told;

        Rules() {
            clear();
        }

        void clear() {
            for (int g = 0; g < GRADES; g++) {
                reserve[g] = 0;
                part[g] = 1;
            }
            rot = 0;
            lossOnBuyer = false;
            told = 0;
        }

        void copy(Rules other) {
            for (int g = 0; g < GRADES; g++) {
                reserve[g] = other.reserve[g];
                part[g] = other.part[g];
            }
            rot = other.rot;
            lossOnBuyer = other.lossOnBuyer;
            told = other.told;
        }
    }

    /** Reads the tape as a text of rules into a draft, so that the rules in force stay if it has a fault. */
    private static final class RuleReader {
        private static final int NO_TOKEN = 1;
        private static final int CANNOT_COME = 2;
        private static final int NOT_AS_TOLD = 3;
        private static final int TOLD_TWICE = 4;

        private static final int KIND_END = 0;
        private static final int KIND_WORD = 1;
        private static final int KIND_NUMBER = 2;
        private static final int KIND_SEMICOLON = 3;
        private static final int KIND_BAD = 4;

        private static final int DIGITS_MOST = 4;
        private static final int RESERVE_MOST = 9999;
        private static final int PART_MOST = 100;
        private static final int ROT_MOST = 50;

        private final Tape text;
        private final Rules draft = new Rules();
        private final boolean[] reserveTold = new boolean[GRADES];
        private final boolean[] partTold = new boolean[GRADES];
        private boolean rotTold;
        private boolean lossTold;
        private int kind;
        private int start;
        private int behind;
        private int faultKind;
        private int faultPlace;

        RuleReader(Tape text) {
            this.text = text;
        }

        void read() {
            forget();
            step();
            for (int i = 0; i < TAPE_MOST && kind != KIND_END && faultKind == 0; i++) {
                readRule();
                step();
            }
        }

        private void forget() {
            draft.clear();
            for (int g = 0; g < GRADES; g++) {
                reserveTold[g] = false;
                partTold[g] = false;
            }
            rotTold = false;
            lossTold = false;
            behind = 0;
            faultKind = 0;
            faultPlace = 0;
        }

        private void readRule() {
            if (isWord("reserve")) {
                readByGrade(draft.reserve, reserveTold, RESERVE_MOST);
            } else if (isWord("part")) {
                readByGrade(draft.part, partTold, PART_MOST);
            } else if (isWord("rot")) {
                readRot();
            } else if (isWord("loss")) {
                readLoss();
            } else {
                refuseToken();
            }
        }

        private void readByGrade(int[] amounts, boolean[] isTold, int most) {
            int grade = takeNumber(GRADES - 1);
            if (grade == NONE) {
                return;
            }
            if (isTold[grade]) {
                refuse(TOLD_TWICE);
                return;
            }
            isTold[grade] = true;
            int amount = takeNumber(most);
            if (amount == NONE) {
                return;
            }
            amounts[grade] = amount;
            finishRule();
        }

        private void readRot() {
            if (rotTold) {
                refuse(TOLD_TWICE);
                return;
            }
            rotTold = true;
            int rot = takeNumber(ROT_MOST);
            if (rot == NONE) {
                return;
            }
            draft.rot = rot;
            finishRule();
        }

        private void readLoss() {
            if (lossTold) {
                refuse(TOLD_TWICE);
                return;
            }
            lossTold = true;
            step();
            boolean onBuyer = isWord("buyer");
            if (!onBuyer && !isWord("pool")) {
                refuseToken();
                return;
            }
            draft.lossOnBuyer = onBuyer;
            finishRule();
        }

        private void finishRule() {
            step();
            if (kind == KIND_SEMICOLON) {
                draft.told++;
            } else {
                refuseToken();
            }
        }

        /** The number that must come next, at most so much; NONE behind a fault. */
        private int takeNumber(int most) {
            step();
            if (kind != KIND_NUMBER) {
                refuseToken();
                return NONE;
            }
            int value = 0;
            for (int i = start; i < behind; i++) {
                value = value * 10 + text.byteAt(i) - '0';
            }
            if (value > most) {
                refuse(NOT_AS_TOLD);
                return NONE;
            }
            return value;
        }

        private void refuseToken() {
            refuse(kind == KIND_BAD ? NO_TOKEN : CANNOT_COME);
        }

        private void refuse(int faultOfToken) {
            faultKind = faultOfToken;
            faultPlace = start;
        }

        /** Goes on to the next token: its kind, its first place, and the place behind it. */
        private void step() {
            start = behind;
            while (start < text.size && isBlank(text.byteAt(start))) {
                start++;
            }
            int first = text.byteAt(start);
            if (start >= text.size) {
                kind = KIND_END;
                behind = start;
            } else if (isLetter(first) || isDigit(first)) {
                stepOverRun();
            } else {
                kind = first == ';' ? KIND_SEMICOLON : KIND_BAD;
                behind = start + 1;
            }
        }

        private void stepOverRun() {
            int letters = 0;
            int digits = 0;
            behind = start;
            while (behind < text.size && (isLetter(text.byteAt(behind)) || isDigit(text.byteAt(behind)))) {
                if (isLetter(text.byteAt(behind))) {
                    letters++;
                } else {
                    digits++;
                }
                behind++;
            }
            if (digits == 0) {
                kind = KIND_WORD;
            } else {
                kind = letters == 0 && digits <= DIGITS_MOST ? KIND_NUMBER : KIND_BAD;
            }
        }

        private boolean isWord(String word) {
            if (kind != KIND_WORD || behind - start != word.length()) {
                return false;
            }
            for (int i = 0; i < word.length(); i++) {
                if (text.byteAt(start + i) != word.charAt(i)) {
                    return false;
                }
            }
            return true;
        }

        private static boolean isBlank(int sign) {
            return sign == 32 || sign == 10;
        }

        private static boolean isLetter(int sign) {
            return sign >= 'a' && sign <= 'z';
        }

        private static boolean isDigit(int sign) {
            return sign >= '0' && sign <= '9';
        }
    }

    /** All lots by number, a row for each thing that is known of them. */
    private static final class Lots {
        private final int[] grower = new int[LOTS_MOST];
        private final int[] mark = new int[LOTS_MOST];
        private final int[] grade = new int[LOTS_MOST];
        private final int[] boxes = new int[LOTS_MOST];
        private final int[] hall = new int[LOTS_MOST];
        private final boolean[] sold = new boolean[LOTS_MOST];
        private final int[] lastSale = new int[LOTS_MOST];
        private int size = 0;

        int add(int ofGrower, int ofMark, int ofGrade, int ofBoxes, int inHall) {
            if (size >= LOTS_MOST) {
                return NONE;
            }
            grower[size] = ofGrower;
            mark[size] = ofMark;
            grade[size] = ofGrade;
            boxes[size] = ofBoxes;
            hall[size] = inHall;
            sold[size] = false;
            lastSale[size] = NONE;
            size++;
            return size - 1;
        }

        void rotWaiting(int percent) {
            for (int k = 0; k < size; k++) {
                if (!sold[k]) {
                    boxes[k] -= boxes[k] * percent / 100;
                }
            }
        }

        /** The grower's first lot from a number on that a hall can offer; the number of lots if there is none. */
        int nextOffered(int ofGrower, int inHall, int from) {
            int k = Math.max(from, 0);
            while (k < size && !(grower[k] == ofGrower && hall[k] == inHall && !sold[k] && boxes[k] > 0)) {
                k++;
            }
            return Math.min(k, size);
        }
    }

    /** All sales by number, a row for each thing that is known of them. */
    private static final class Sales {
        private final int[] ofLot = new int[SALES_MOST];
        private final int[] buyer = new int[SALES_MOST];
        private final int[] day = new int[SALES_MOST];
        private final int[] boxes = new int[SALES_MOST];
        private final int[] price = new int[SALES_MOST];
        private final int[] rejectedOn = new int[SALES_MOST];
        private final int[] soldAgainBy = new int[SALES_MOST];
        private int size = 0;

        int add(int lot, int toBuyer, int onDay, int ofBoxes, int atPrice) {
            if (size >= SALES_MOST) {
                return NONE;
            }
            ofLot[size] = lot;
            buyer[size] = toBuyer;
            day[size] = onDay;
            boxes[size] = ofBoxes;
            price[size] = atPrice;
            rejectedOn[size] = NONE;
            soldAgainBy[size] = NONE;
            size++;
            return size - 1;
        }

        boolean countsAsOf(int s, int asOf) {
            return day[s] <= asOf && (rejectedOn[s] == NONE || rejectedOn[s] > asOf);
        }
    }

    /** What buyers want, and what they have to pay with. */
    private static final class Buyers {
        private final int[] purse = new int[BUYERS];
        private final int[] unspent = new int[BUYERS];
        private final int[] wantBoxes = new int[BUYERS * HALLS * GRADES];
        private final int[] wantLimit = new int[BUYERS * HALLS * GRADES];

        static int wantPlace(int buyer, int hall, int grade) {
            return (buyer * HALLS + hall) * GRADES + grade;
        }

        /** The limit with which a buyer bids; 0 for one who does not. */
        int bidOf(int buyer, int hall, int grade, int boxes, int reserve) {
            int place = wantPlace(buyer, hall, grade);
            int limit = wantLimit[place];
            boolean bids = wantBoxes[place] >= boxes && limit >= 1 && limit >= reserve
                    && limit * boxes <= unspent[buyer];
            return bids ? limit : 0;
        }

        void take(int buyer, int place, int boxes, int price) {
            wantBoxes[place] -= boxes;
            unspent[buyer] -= boxes * price;
        }

        void restoreMoney() {
            for (int b = 0; b < BUYERS; b++) {
                unspent[b] = purse[b];
            }
        }
    }

    /** The pool and what each grower has of it, as of a day and by the rules of now. */
    private static final class Payout {
        private final Lots lots;
        private final Sales sales;
        private final Rules ruling;
        private final long[] weights = new long[GROWERS];
        private final long[] rests = new long[GROWERS];

        Payout(Lots lots, Sales sales, Rules ruling) {
            this.lots = lots;
            this.sales = sales;
            this.ruling = ruling;
        }

        int claimOf(int s) {
            int again = sales.soldAgainBy[s];
            if (again == NONE || !ruling.lossOnBuyer) {
                return 0;
            }
            return Math.max(sales.price[s] - sales.price[again], 0) * sales.boxes[again];
        }

        long poolAsOf(int asOf) {
            long together = 0;
            for (int s = 0; s < sales.size; s++) {
                int again = sales.soldAgainBy[s];
                if (sales.countsAsOf(s, asOf)) {
                    together += (long) sales.boxes[s] * sales.price[s];
                } else if (again != NONE && sales.day[again] <= asOf) {
                    together += claimOf(s);
                }
            }
            return together;
        }

        long shareOf(int grower, int asOf) {
            long all = weigh(asOf);
            if (all < 1) {
                return 0;
            }
            long toShare = poolAsOf(asOf);
            long over = toShare;
            for (int g = 0; g < GROWERS; g++) {
                over -= toShare * weights[g] / all;
                rests[g] = toShare * weights[g] % all;
            }
            long share = toShare * weights[grower] / all;
            return placeByRest(grower) < over ? share + 1 : share;
        }

        /** Sets the weights of all growers: all of them together. */
        private long weigh(int asOf) {
            for (int g = 0; g < GROWERS; g++) {
                weights[g] = 0;
            }
            long all = 0;
            for (int s = 0; s < sales.size; s++) {
                if (sales.countsAsOf(s, asOf)) {
                    int lot = sales.ofLot[s];
                    long weight = (long) sales.boxes[s] * ruling.part[lots.grade[lot]];
                    weights[lots.grower[lot]] += weight;
                    all += weight;
                }
            }
            return all;
        }

        /** How many growers are served with a cent that is over before this one. */
        private int placeByRest(int grower) {
            int ahead = 0;
            for (int g = 0; g < GROWERS; g++) {
                if (rests[g] > rests[grower] || (rests[g] == rests[grower] && g < grower)) {
                    ahead++;
                }
            }
            return ahead;
        }
    }

    /** What a mark brings beyond its grade, as a fraction in its lowest terms. */
    private static final class Premium {
        // A gcd of two longs takes fewer than a hundred divisions.
        private static final int DIVISIONS_MOST = 200;

        private final Lots lots;
        private final Sales sales;
        private final long[] gradeSales = new long[GRADES];
        private final long[] gradePrices = new long[GRADES];
        private final long[] markSales = new long[GRADES];
        private long upper;
        private long lower;

        Premium(Lots lots, Sales sales) {
            this.lots = lots;
            this.sales = sales;
        }

        /** Sets upper and lower; false, if no sale of the mark counts. */
        boolean reckon(int mark, int asOf) {
            long ofMark = 0;
            long prices = gather(mark, asOf);
            // At most one sale of each lot counts, so this stays at or below 25 to the power of 4.
            long common = 1;
            for (int g = 0; g < GRADES; g++) {
                ofMark += markSales[g];
                common *= Math.max(gradeSales[g], 1);
            }
            if (ofMark < 1) {
                return false;
            }
            upper = prices * common;
            for (int g = 0; g < GRADES; g++) {
                upper -= markSales[g] * gradePrices[g] * (common / Math.max(gradeSales[g], 1));
            }
            lower = ofMark * common;
            reduce();
            return true;
        }

        /** Adds up what counts, grade by grade: all prices of the mark. */
        private long gather(int mark, int asOf) {
            for (int g = 0; g < GRADES; g++) {
                gradeSales[g] = 0;
                gradePrices[g] = 0;
                markSales[g] = 0;
            }
            long prices = 0;
            for (int s = 0; s < sales.size; s++) {
                if (sales.countsAsOf(s, asOf)) {
                    int lot = sales.ofLot[s];
                    int grade = lots.grade[lot];
                    gradeSales[grade]++;
                    gradePrices[grade] += sales.price[s];
                    if (lots.mark[lot] == mark) {
                        markSales[grade]++;
                        prices += sales.price[s];
                    }
                }
            }
            return prices;
        }

        private void reduce() {
            long divisor = lower;
            long rest = Math.abs(upper);
            for (int i = 0; i < DIVISIONS_MOST && rest != 0; i++) {
                long lesser = divisor % rest;
                divisor = rest;
                rest = lesser;
            }
            if (divisor > 1) {
                upper /= divisor;
                lower /= divisor;
            }
        }
    }

    /** Sends cars to the halls where they are worth most. */
    private static final class Freight {
        private final int[] worthOfNext = new int[HALLS];
        private final int[] fall = new int[HALLS];
        private final int[] carsTo = new int[HALLS];
        private boolean dispatched = false;

        int dispatch(Tape terms, int n) {
            for (int h = 0; h < HALLS; h++) {
                worthOfNext[h] = terms.pairAt(4 * h);
                fall[h] = terms.pairAt(4 * h + 2);
                carsTo[h] = 0;
            }
            int together = 0;
            // Worths never rise within a hall, so to take the best next car each time is best in all.
            for (int car = 0; car < n; car++) {
                int hall = bestHall();
                together += worthOfNext[hall];
                worthOfNext[hall] = Math.max(worthOfNext[hall] - fall[hall], 0);
                carsTo[hall]++;
            }
            dispatched = true;
            return together;
        }

        private int bestHall() {
            int best = 0;
            for (int h = 1; h < HALLS; h++) {
                if (worthOfNext[h] > worthOfNext[best]) {
                    best = h;
                }
            }
            return best;
        }
    }
}
