import java.util.NoSuchElementException;

/** Woods sold unseen to whoever bids most: one object holds SALES, TABLES of bids, a TAPE and a latest LEARN. */
public final class SorryToWin {
    public static final int NONE = -1;
    public static final long HIDDEN = -1000000000000000L;

    private static final int MOST_BYTES = 240;
    private static final int MOST_SALES = 8;
    private static final int MOST_TABLES = 10;
    private static final int MOST_TRUTHS = 8;
    private static final int MOST_SIGNS = 5;
    private static final int MOST_SEATS = 4;
    private static final int MOST_TURNS = 20;
    private static final int MOST_ROUNDS = 400;
    /** The highest V, bid and LEAST. */
    private static final int TOP = 60;
    private static final int TEN = 10;
    /** CASES for each weight: they can be shared out evenly among one to four. */
    private static final int SHARES = 12;
    private static final int PLAIN = -1;
    private static final int WISE = -2;
    private static final int PAY_NEXT = 1;
    private static final int ALL_PAY = 2;

    private final Tape tape = new Tape();
    private final Sale[] sales = new Sale[MOST_SALES];
    private int saleCount = 0;
    private final int[] tableBids = new int[MOST_TABLES * MOST_SIGNS];
    private int tableCount = 0;
    private final int[] laid = new int[MOST_SEATS];
    private final Crowd crowd = new Crowd();
    private final Tally tally = new Tally();
    private final Rivals rivals = new Rivals();
    private final Bars bars = new Bars();
    private final Turns turns = new Turns();
    private final Rising rising = new Rising();
    private final Learner learner = new Learner();

    public SorryToWin() {
    }

    // ---- the TAPE and the SALES

    public int feed(int a, int b, int c, int d, int e) {
        int more = Tape.bytesIn(a) + Tape.bytesIn(b) + Tape.bytesIn(c) + Tape.bytesIn(d) + Tape.bytesIn(e);
        if (tape.length + more > MOST_BYTES) {
            return NONE;
        }
        tape.put(a);
        tape.put(b);
        tape.put(c);
        tape.put(d);
        tape.put(e);
        return tape.length;
    }

    public boolean end(int n) {
        if (n < 0 || n > tape.length) {
            return false;
        }
        tape.length = n;
        return true;
    }

    public int fault() {
        return tape.read();
    }

    public int sale() {
        if (saleCount >= MOST_SALES || tape.read() != NONE) {
            return NONE;
        }
        sales[saleCount] = tape.takeDraft();
        saleCount++;
        return saleCount - 1;
    }

    public int told(int sale, int what) {
        Sale s = saleAt(sale);
        if (s == null) {
            return NONE;
        }
        switch (what) {
            case 0:
                return s.signs;
            case 1:
                return s.truths;
            case 2:
                return s.bidders;
            case 3:
                return s.least;
            case 4:
                return s.way;
            case 5:
                return s.allWeights();
            default:
                return NONE;
        }
    }

    public int truth(int sale, int truth, int what) throws NoSuchElementException {
        Sale s = saleAt(sale);
        if (s == null || truth < 0 || truth >= s.truths) {
            throw new NoSuchElementException("no such TRUTH");
        }
        if (what == 5) {
            return s.value[truth];
        }
        if (what == 6) {
            return s.weight[truth];
        }
        if (what < 0 || what >= s.signs) {
            throw new NoSuchElementException("no such SIGN");
        }
        return s.seeing(truth, what);
    }

    public boolean change(int sale, int what, int v) {
        Sale s = saleAt(sale);
        if (s == null) {
            return false;
        }
        if (what == 0 && v >= 1 && v <= MOST_SEATS) {
            s.bidders = v;
            return true;
        }
        if (what == 1 && v >= 0 && v <= TOP) {
            s.least = v;
            return true;
        }
        if (what == 2 && v >= 0 && v <= ALL_PAY) {
            s.way = v;
            return true;
        }
        return false;
    }

    public int worth(int sale, int a, int b, int c, int d, int what) {
        Sale s = saleAt(sale);
        if (s == null || !s.hasSign(a) || !isHalf(what)) {
            return NONE;
        }
        if (!hasSignOrNone(s, b) || !hasSignOrNone(s, c) || !hasSignOrNone(s, d) || !s.weigh(a, b, c, d)) {
            return NONE;
        }
        return (int) half(s.up, s.down, what);
    }

    // ---- TABLES and SEATS

    public int table() {
        if (tableCount >= MOST_TABLES) {
            return NONE;
        }
        tableCount++;
        return tableCount - 1;
    }

    public boolean bid(int table, int sign, int v) {
        if (!hasTable(table) || sign < 0 || sign >= MOST_SIGNS || v < 0 || v > TOP) {
            return false;
        }
        tableBids[table * MOST_SIGNS + sign] = v;
        return true;
    }

    public boolean seat(int sale, int seat, int table) {
        Sale s = saleAt(sale);
        if (s == null || seat < 0 || seat >= MOST_SEATS) {
            return false;
        }
        if (table != PLAIN && table != WISE && !hasTable(table)) {
            return false;
        }
        s.sitter[seat] = table;
        return true;
    }

    public int bids(int sale, int seat, int sign) {
        Sale s = saleAt(sale);
        if (s == null || !s.hasSeat(seat) || !s.hasSign(sign)) {
            return NONE;
        }
        return bidOf(s, seat, sign, NONE);
    }

    // ---- CASES

    public long cases(int sale, int what) {
        Sale s = saleAt(sale);
        if (s == null || what < 0 || what > 3) {
            return NONE;
        }
        tallyOf(s);
        switch (what) {
            case 0:
                return tally.all;
            case 1:
                return tally.takes;
            case 2:
                return tally.sorry;
            default:
                return tally.unsold;
        }
    }

    public long gain(int sale, int seat) {
        Sale s = saleAt(sale);
        if (s == null || !s.hasSeat(seat)) {
            return HIDDEN;
        }
        tallyOf(s);
        return tally.gained[seat];
    }

    public long won(int sale, int seat, int sign, int what) {
        Sale s = saleAt(sale);
        if (s == null || !isHalf(what) || !s.hasSeat(seat) || !s.hasSign(sign)) {
            return NONE;
        }
        tallyOf(s);
        int at = seat * MOST_SIGNS + sign;
        return tally.wonCases[at] > 0 ? half(tally.wonWorth[at], tally.wonCases[at], what) : NONE;
    }

    public long less(int sale, int seat, int sign, int what) {
        Sale s = saleAt(sale);
        if (s == null || !isHalf(what) || !s.hasSeat(seat) || !s.hasSign(sign)) {
            return HIDDEN;
        }
        tallyOf(s);
        int at = seat * MOST_SIGNS + sign;
        if (tally.wonCases[at] <= 0 || !s.weigh(sign, NONE, NONE, NONE)) {
            return HIDDEN;
        }
        long up = s.up * tally.wonCases[at] - tally.wonWorth[at] * s.down;
        return half(up, s.down * tally.wonCases[at], what);
    }

    // ---- BEST, FIND, BY, BAR, TELLING, NEAR, AS ONE

    public int best(int sale, int seat, int sign) {
        Sale s = saleAt(sale);
        if (s == null || !s.hasSeat(seat) || !s.hasSign(sign)) {
            return NONE;
        }
        rowsWithout(s, seat);
        rivalsBySign(s, sign);
        return rivals.pick();
    }

    public int judge(int sale) {
        Sale s = saleAt(sale);
        if (s == null) {
            return NONE;
        }
        for (int seat = 0; seat < s.bidders; seat++) {
            rowsWithout(s, seat);
            for (int sign = 0; sign < s.signs; sign++) {
                rivalsBySign(s, sign);
                if (!rivals.isMost(bidOf(s, seat, sign, NONE))) {
                    return TEN * seat + sign;
                }
            }
        }
        return NONE;
    }

    public int find(int sale, int table) {
        Sale s = saleAt(sale);
        if (s == null || !hasTable(table)) {
            return NONE;
        }
        for (int sign = 0; sign < s.signs; sign++) {
            turns.next[sign] = s.held(sign, NONE, NONE, NONE);
        }
        turns.begin(s.signs);
        for (int n = 0; n < MOST_TURNS && turns.goesOn(); n++) {
            turnOf(s);
            turns.close();
        }
        for (int sign = 0; sign < s.signs; sign++) {
            tableBids[table * MOST_SIGNS + sign] = turns.next[sign];
        }
        return turns.ending;
    }

    public long by(int sale, int many, boolean wise, int what) {
        Sale s = saleAt(sale);
        if (s == null || many < 1 || many > MOST_SEATS || !isHalf(what)) {
            return NONE;
        }
        rowsAlike(s, many, wise);
        crowd.withSign(s, NONE);
        tally.clear();
        tally.add(crowd, s, many);
        return half(tally.takes, tally.all, what);
    }

    public int bar(int sale, boolean wise) {
        Sale s = saleAt(sale);
        if (s == null) {
            return NONE;
        }
        // PLAIN and WISE bids stay as they are by any LEAST: a seller paid by who bids only loses bids by it.
        if (s.way != PAY_NEXT) {
            return 0;
        }
        rowsAlike(s, s.bidders, wise);
        crowd.withSign(s, NONE);
        bars.gather(crowd, s);
        return bars.pick();
    }

    public long telling(int sale) {
        Sale s = saleAt(sale);
        if (s == null) {
            return NONE;
        }
        tally.clear();
        for (int his = 0; his < s.signs; his++) {
            for (int seat = 0; seat < s.bidders; seat++) {
                rowOf(s, seat, seat, his);
            }
            crowd.withSign(s, his);
            tally.add(crowd, s, s.bidders);
        }
        return tally.takes;
    }

    public int near(int sale, int truth) {
        Sale s = saleAt(sale);
        if (s == null || truth < 0 || truth >= s.truths) {
            return NONE;
        }
        rowsWithout(s, 0);
        rivalsByTruth(s, truth);
        return rivals.pick();
    }

    public long nearGain(int sale) {
        Sale s = saleAt(sale);
        if (s == null) {
            return HIDDEN;
        }
        rowsWithout(s, 0);
        long sum = 0;
        for (int truth = 0; truth < s.truths; truth++) {
            rivalsByTruth(s, truth);
            sum += rivals.most();
        }
        return sum;
    }

    public long asOne(int sale) {
        Sale s = saleAt(sale);
        if (s == null || s.bidders < 2) {
            return NONE;
        }
        tally.clear();
        for (int seat = 2; seat < s.bidders; seat++) {
            rowOf(s, seat, seat - 1, NONE);
        }
        // SEAT 1 only brings a SIGN, so it stands outside the crowd like a seller's.
        for (int other = 0; other < s.signs; other++) {
            for (int sign = 0; sign < s.signs; sign++) {
                crowd.bidBy(0, sign, s.held(sign, other, NONE, NONE));
            }
            crowd.withSign(s, other);
            tally.add(crowd, s, s.bidders - 1);
        }
        return tally.takes;
    }

    // ---- OPEN and LEARN

    public boolean lay(int seat, int sign) {
        if (seat < 0 || seat >= MOST_SEATS || sign < 0 || sign >= MOST_SIGNS) {
            return false;
        }
        laid[seat] = sign;
        return true;
    }

    public int open(int sale, int what) {
        Sale s = saleAt(sale);
        if (s == null || !isHalf(what) || !laidFor(s)) {
            return NONE;
        }
        rising.rise(s, laid);
        return what == 0 ? rising.winner : rising.price;
    }

    public int leaves(int sale, int i, int what) {
        Sale s = saleAt(sale);
        if (s == null || !isHalf(what) || i < 0 || i >= s.bidders - 1 || !laidFor(s)) {
            return NONE;
        }
        rising.rise(s, laid);
        return what == 0 ? rising.leaver[i] : rising.leftAt[i];
    }

    public int learn(int sale, long seed, int rounds) {
        Sale s = saleAt(sale);
        if (s == null || rounds < 1 || rounds > MOST_ROUNDS) {
            return NONE;
        }
        learner.begin(s, seed);
        for (int seat = 0; seat < s.bidders; seat++) {
            for (int sign = 0; sign < s.signs; sign++) {
                learner.row[seat * MOST_SIGNS + sign] = bidOf(s, seat, sign, NONE);
            }
        }
        for (int n = 0; n < rounds; n++) {
            learner.round();
        }
        return learner.sorry;
    }

    public int learned(int seat, int what) throws NoSuchElementException {
        if (seat < 0 || seat >= learner.bidders || what < 0 || what > MOST_SIGNS) {
            throw new NoSuchElementException("no such SEAT or SIGN in the latest LEARN");
        }
        return what == MOST_SIGNS ? learner.gained[seat] : learner.row[seat * MOST_SIGNS + what];
    }

    public int got() {
        return learner.taken;
    }

    public int count(int what) {
        switch (what) {
            case 0:
                return saleCount;
            case 1:
                return tableCount;
            case 2:
                return tape.length;
            default:
                return NONE;
        }
    }

    // ---- what the face is made of

    private Sale saleAt(int number) {
        return number < 0 || number >= saleCount || number >= MOST_SALES ? null : sales[number];
    }

    private boolean hasTable(int number) {
        return number >= 0 && number < tableCount && number < MOST_TABLES;
    }

    private static boolean isHalf(int what) {
        return what == 0 || what == 1;
    }

    private static boolean hasSignOrNone(Sale s, int sign) {
        return sign == NONE || s.hasSign(sign);
    }

    /** The upper (what 0) or the lower number of up / down without a common part; down is above 0. */
    private static long half(long up, long down, int what) {
        long big = up < 0 ? -up : up;
        long small = down;
        // Euclid's steps at least halve a long every two, so 200 are never used up.
        for (int n = 0; n < 200 && small > 0; n++) {
            long rest = big % small;
            big = small;
            small = rest;
        }
        long chosen = what == 0 ? up : down;
        return big > 0 ? chosen / big : chosen;
    }

    /** What a SEAT bids by its SIGN and, with one told, the seller's (else NONE). */
    private int bidOf(Sale s, int seat, int sign, int his) {
        int sitter = s.sitter[seat];
        if (hasTable(sitter)) {
            return tableBids[sitter * MOST_SIGNS + sign];
        }
        return s.held(sign, sitter == WISE && s.bidders > 1 ? sign : NONE, his, NONE);
    }

    /** Puts what a SEAT bids into the crowd at a place there. */
    private void rowOf(Sale s, int seat, int place, int his) {
        for (int sign = 0; sign < s.signs; sign++) {
            crowd.bidBy(place, sign, bidOf(s, seat, sign, his));
        }
    }

    private void rowsWithout(Sale s, int seat) {
        int place = 0;
        for (int other = 0; other < s.bidders; other++) {
            if (other != seat) {
                rowOf(s, other, place, NONE);
                place++;
            }
        }
    }

    private void rowsAlike(Sale s, int many, boolean wise) {
        for (int place = 0; place < many; place++) {
            for (int sign = 0; sign < s.signs; sign++) {
                crowd.bidBy(place, sign, s.held(sign, wise && many > 1 ? sign : NONE, NONE, NONE));
            }
        }
    }

    private void tallyOf(Sale s) {
        for (int seat = 0; seat < s.bidders; seat++) {
            rowOf(s, seat, seat, NONE);
        }
        crowd.withSign(s, NONE);
        tally.clear();
        tally.add(crowd, s, s.bidders);
    }

    private void rivalsBySign(Sale s, int sign) {
        crowd.withSign(s, sign);
        rivals.gather(crowd, s, s.bidders - 1);
    }

    private void rivalsByTruth(Sale s, int truth) {
        crowd.withTruth(s, truth);
        rivals.gather(crowd, s, s.bidders - 1);
    }

    private void turnOf(Sale s) {
        for (int place = 0; place < s.bidders - 1; place++) {
            for (int sign = 0; sign < s.signs; sign++) {
                crowd.bidBy(place, sign, turns.now[sign]);
            }
        }
        for (int sign = 0; sign < s.signs; sign++) {
            rivalsBySign(s, sign);
            turns.next[sign] = rivals.pick();
        }
    }

    private boolean laidFor(Sale s) {
        for (int seat = 0; seat < s.bidders; seat++) {
            if (!s.hasSign(laid[seat])) {
                return false;
            }
        }
        return true;
    }

    /** The bytes that came and were not made a SALE yet, and how they read as one. */
    private static final class Tape {
        final int[] bytes = new int[MOST_BYTES];
        int length = 0;
        /** The SALE that is read; it is whole only after a reading without a FAULT. */
        Sale draft = new Sale();
        private int at = 0;
        private int wrong = NONE;

        static int bytesIn(int word) {
            int n = 0;
            for (int shift = 24; shift >= 0; shift -= 8) {
                if (((word >>> shift) & 255) != 0) {
                    n++;
                }
            }
            return n;
        }

        void put(int word) {
            for (int shift = 24; shift >= 0; shift -= 8) {
                int b = (word >>> shift) & 255;
                if (b != 0 && length < MOST_BYTES) {
                    bytes[length] = b;
                    length++;
                }
            }
        }

        /** Gives the draft away and is empty then. */
        Sale takeDraft() {
            Sale taken = draft;
            draft = new Sale();
            length = 0;
            return taken;
        }

        /** The FAULT, or NONE. */
        int read() {
            draft.clear();
            at = 0;
            wrong = NONE;
            skip();
            if (look() != 's') {
                return at;
            }
            at++;
            draft.signs = number(2, MOST_SIGNS);
            for (int n = 0; n <= MOST_BYTES && wrong == NONE; n++) {
                skip();
                if (at >= length) {
                    return draft.truths > 0 ? NONE : at;
                }
                if (look() != ';') {
                    return at;
                }
                at++;
                clause();
            }
            return wrong;
        }

        /** The byte where the reading stands; NONE behind the end. */
        private int look() {
            return at < length && at < MOST_BYTES ? bytes[at] : NONE;
        }

        private void skip() {
            for (int n = 0; n < MOST_BYTES && look() == ' '; n++) {
                at++;
            }
        }

        private void clause() {
            skip();
            int letter = look();
            if (letter == 't' && draft.truths < MOST_TRUTHS) {
                at++;
                truthClause(draft.truths);
            } else if (letter == 'n') {
                at++;
                draft.bidders = number(1, MOST_SEATS);
            } else if (letter == 'l') {
                at++;
                draft.least = number(0, TOP);
            } else if (letter == 'w') {
                at++;
                draft.way = number(0, ALL_PAY);
            } else {
                wrong = at;
            }
        }

        private void truthClause(int t) {
            draft.value[t] = number(0, TOP);
            draft.weight[t] = number(1, 9);
            int left = TEN;
            for (int sign = 0; sign < draft.signs && wrong == NONE; sign++) {
                int lowest = sign == draft.signs - 1 ? left : 0;
                int many = number(lowest, left);
                draft.ofTen[t * MOST_SIGNS + sign] = many;
                left -= many;
            }
            draft.truths++;
        }

        /** The next number; 0 and a FAULT if there is none within these bounds. */
        private int number(int low, int high) {
            if (wrong != NONE) {
                return 0;
            }
            int before = at;
            skip();
            int v = digit();
            if (at == before || v == NONE) {
                wrong = at;
                return 0;
            }
            at++;
            int second = digit();
            if (second != NONE) {
                v = v * TEN + second;
                at++;
            }
            // A third digit needs no look: it is neither a blank nor a ; nor the end, of which one must stand there.
            if (v < low || v > high) {
                wrong = at - 1;
                return 0;
            }
            return v;
        }

        private int digit() {
            int b = look();
            return b >= '0' && b <= '9' ? b - '0' : NONE;
        }
    }

    /** One SALE: its TRUTHS, its rules and who sits on its SEATS. */
    private static final class Sale {
        final int[] value = new int[MOST_TRUTHS];
        final int[] weight = new int[MOST_TRUTHS];
        final int[] ofTen = new int[MOST_TRUTHS * MOST_SIGNS];
        final int[] sitter = new int[MOST_SEATS];
        int signs = 0;
        int truths = 0;
        int bidders = 2;
        int least = 0;
        int way = 0;
        /** What weigh found last: the weights times V, and the weights. */
        long up = 0;
        long down = 0;

        void clear() {
            signs = 0;
            truths = 0;
            bidders = 2;
            least = 0;
            way = 0;
            for (int seat = 0; seat < MOST_SEATS; seat++) {
                sitter[seat] = PLAIN;
            }
        }

        boolean hasSign(int sign) {
            return sign >= 0 && sign < signs;
        }

        boolean hasSeat(int seat) {
            return seat >= 0 && seat < bidders;
        }

        int allWeights() {
            int sum = 0;
            for (int t = 0; t < truths; t++) {
                sum += weight[t];
            }
            return sum;
        }

        /** How many of ten see a SIGN; 1 for no SIGN, so that it leaves a product as it is. */
        int seeing(int truth, int sign) {
            return sign >= 0 && sign < signs ? ofTen[truth * MOST_SIGNS + sign] : 1;
        }

        /** The WORTH of up to four SIGNS (NONE: not that many) as up / down; false: no TRUTH has a weight with them. */
        boolean weigh(int a, int b, int c, int d) {
            up = 0;
            down = 0;
            for (int t = 0; t < truths; t++) {
                long w = (long) weight[t] * seeing(t, a) * seeing(t, b) * seeing(t, c) * seeing(t, d);
                up += w * value[t];
                down += w;
            }
            return down > 0;
        }

        int held(int a, int b, int c, int d) {
            return weigh(a, b, c, d) && down > 0 ? (int) (up / down) : 0;
        }
    }

    /** Bidders with what each bids by each SIGN; walks through all the SIGNS that they may have. */
    private static final class Crowd {
        final int[] row = new int[MOST_SEATS * MOST_SIGNS];
        final int[] sign = new int[MOST_SEATS];
        /** By how many bidders are reckoned in, then by TRUTH: the weights with their SIGNS. */
        final long[] part = new long[(MOST_SEATS + 1) * MOST_TRUTHS];
        private Sale of = new Sale();
        int bidders = 0;
        int least = 0;
        /** Of the SIGNS where it stands: all weights, and all weights times V. */
        long weight = 0;
        long worth = 0;
        /** The highest bid (NONE without), how many have it, the highest of the others' (NONE without), all bids. */
        int high = NONE;
        int alike = 0;
        int next = NONE;
        int sum = 0;

        void bidBy(int place, int sign, int bid) {
            if (place >= 0 && place < MOST_SEATS && sign >= 0 && sign < MOST_SIGNS) {
                row[place * MOST_SIGNS + sign] = bid;
            }
        }

        int bidNow(int place) {
            return row[place * MOST_SIGNS + sign[place]];
        }

        /** All TRUTHS, with one SIGN more that is seen outside the crowd (or NONE). */
        void withSign(Sale sale, int outside) {
            for (int t = 0; t < sale.truths; t++) {
                part[t] = (long) sale.weight[t] * sale.seeing(t, outside);
            }
        }

        void withTruth(Sale sale, int truth) {
            for (int t = 0; t < sale.truths; t++) {
                part[t] = t == truth ? sale.weight[t] : 0;
            }
        }

        /** Goes to the first SIGNS; answers how many there are to walk through. */
        int begin(Sale sale, int many, int leastBid) {
            of = sale;
            bidders = many;
            least = leastBid;
            int all = 1;
            for (int place = 0; place < bidders; place++) {
                sign[place] = 0;
                all *= sale.signs;
            }
            reckon(0);
            return all;
        }

        /** Goes to the next SIGNS. */
        void step() {
            for (int place = bidders - 1; place >= 0; place--) {
                if (sign[place] + 1 < of.signs) {
                    sign[place]++;
                    reckon(place);
                    return;
                }
                sign[place] = 0;
            }
        }

        /** Only the SIGNS from this place on have changed. */
        private void reckon(int from) {
            for (int place = from; place < bidders; place++) {
                int before = place * MOST_TRUTHS;
                for (int t = 0; t < of.truths; t++) {
                    part[before + MOST_TRUTHS + t] = part[before + t] * of.ofTen[t * MOST_SIGNS + sign[place]];
                }
            }
            weight = 0;
            worth = 0;
            for (int t = 0; t < of.truths; t++) {
                long w = part[bidders * MOST_TRUTHS + t];
                weight += w;
                worth += w * of.value[t];
            }
            rank();
        }

        private void rank() {
            high = NONE;
            alike = 0;
            next = NONE;
            sum = 0;
            for (int place = 0; place < bidders; place++) {
                int bid = row[place * MOST_SIGNS + sign[place]];
                if (bid < least) {
                    continue;
                }
                sum += bid;
                if (bid > high) {
                    next = high;
                    high = bid;
                    alike = 1;
                } else if (bid == high) {
                    next = bid;
                    alike++;
                } else if (bid > next) {
                    next = bid;
                }
            }
        }

        /** What who wins pays. */
        int price() {
            if (of.way != PAY_NEXT) {
                return high;
            }
            return next == NONE ? least : next;
        }

        /** The weights of the TRUTHS with V below a price. */
        long weightBelow(int price) {
            long w = 0;
            for (int t = 0; t < of.truths; t++) {
                if (of.value[t] < price) {
                    w += part[bidders * MOST_TRUTHS + t];
                }
            }
            return w;
        }
    }

    /** What comes out over all CASES. */
    private static final class Tally {
        long all = 0;
        long takes = 0;
        long sorry = 0;
        long unsold = 0;
        final long[] gained = new long[MOST_SEATS];
        final long[] wonWorth = new long[MOST_SEATS * MOST_SIGNS];
        final long[] wonCases = new long[MOST_SEATS * MOST_SIGNS];

        void clear() {
            all = 0;
            takes = 0;
            sorry = 0;
            unsold = 0;
            for (int seat = 0; seat < MOST_SEATS; seat++) {
                gained[seat] = 0;
            }
            for (int at = 0; at < MOST_SEATS * MOST_SIGNS; at++) {
                wonWorth[at] = 0;
                wonCases[at] = 0;
            }
        }

        void add(Crowd crowd, Sale sale, int bidders) {
            int ways = crowd.begin(sale, bidders, sale.least);
            for (int n = 0; n < ways; n++) {
                addCases(crowd, sale.way == ALL_PAY);
                crowd.step();
            }
        }

        private void addCases(Crowd crowd, boolean allPay) {
            all += SHARES * crowd.weight;
            if (crowd.alike == 0) {
                unsold += SHARES * crowd.weight;
                return;
            }
            int price = crowd.price();
            takes += SHARES * crowd.weight * (allPay ? crowd.sum : price);
            sorry += SHARES * crowd.weightBelow(price);
            long share = SHARES / crowd.alike;
            for (int seat = 0; seat < crowd.bidders; seat++) {
                int bid = crowd.bidNow(seat);
                if (bid == crowd.high) {
                    int at = seat * MOST_SIGNS + crowd.sign[seat];
                    wonWorth[at] += share * crowd.worth;
                    wonCases[at] += share * crowd.weight;
                    gained[seat] += share * crowd.worth;
                }
                gained[seat] -= crowd.weight * paidBy(crowd, bid, price, allPay);
            }
        }

        /** What a bid pays in all the CASES of one weight together. */
        private static long paidBy(Crowd crowd, int bid, int price, boolean allPay) {
            if (allPay) {
                return bid >= crowd.least ? SHARES * bid : 0;
            }
            return bid == crowd.high && crowd.alike > 0 ? SHARES / crowd.alike * price : 0;
        }
    }

    /** What one bidder gains by each bid against a crowd of others. */
    private static final class Rivals {
        /** By the highest bid of the others and how many have it: their weights, and these times V. */
        final long[] weight = new long[(TOP + 1) * MOST_SEATS];
        final long[] worth = new long[(TOP + 1) * MOST_SEATS];
        /** Where none of the others bids. */
        long freeWeight = 0;
        long freeWorth = 0;
        final long[] gained = new long[TOP + 1];

        void gather(Crowd crowd, Sale sale, int others) {
            for (int at = 0; at < (TOP + 1) * MOST_SEATS; at++) {
                weight[at] = 0;
                worth[at] = 0;
            }
            freeWeight = 0;
            freeWorth = 0;
            int ways = crowd.begin(sale, others, sale.least);
            for (int n = 0; n < ways; n++) {
                addCases(crowd);
                crowd.step();
            }
            reckon(sale.least, sale.way);
        }

        private void addCases(Crowd crowd) {
            if (crowd.alike == 0) {
                freeWeight += crowd.weight;
                freeWorth += crowd.worth;
                return;
            }
            int at = crowd.high * MOST_SEATS + crowd.alike;
            if (at >= 0 && at < (TOP + 1) * MOST_SEATS) {
                weight[at] += crowd.weight;
                worth[at] += crowd.worth;
            }
        }

        /** Goes up through the bids; beaten ones are those whose highest is lower. */
        private void reckon(int least, int way) {
            long all = freeWeight;
            for (int at = 0; at < (TOP + 1) * MOST_SEATS; at++) {
                all += weight[at];
            }
            long beaten = freeWeight;
            long beatenWorth = freeWorth;
            long beatenNext = freeWeight * least;
            for (int bid = 0; bid <= TOP; bid++) {
                if (bid < least) {
                    gained[bid] = 0;
                    continue;
                }
                long wins = SHARES * beatenWorth;
                long pays = SHARES * (way == PAY_NEXT ? beatenNext : beaten * bid);
                for (int alike = 1; alike < MOST_SEATS; alike++) {
                    int at = bid * MOST_SEATS + alike;
                    long share = SHARES / (alike + 1);
                    wins += share * worth[at];
                    pays += share * weight[at] * bid;
                    beaten += weight[at];
                    beatenWorth += worth[at];
                    beatenNext += weight[at] * bid;
                }
                gained[bid] = wins - (way == ALL_PAY ? SHARES * all * bid : pays);
            }
        }

        /** The lowest of the bids that gain most. */
        int pick() {
            int best = 0;
            for (int bid = 1; bid <= TOP; bid++) {
                if (gained[bid] > gained[best]) {
                    best = bid;
                }
            }
            return best;
        }

        long most() {
            return gained[pick()];
        }

        boolean isMost(int bid) {
            return bid >= 0 && bid <= TOP && gained[bid] == most();
        }
    }

    /** What the seller takes by each LEAST, where who wins pays the next bid. */
    private static final class Bars {
        /** Weights by the highest bid, and by the next one. */
        final long[] high = new long[TOP + 1];
        final long[] next = new long[TOP + 1];

        void gather(Crowd crowd, Sale sale) {
            for (int bid = 0; bid <= TOP; bid++) {
                high[bid] = 0;
                next[bid] = 0;
            }
            int ways = crowd.begin(sale, sale.bidders, 0);
            for (int n = 0; n < ways; n++) {
                addTo(high, crowd.high, crowd.weight);
                addTo(next, crowd.next, crowd.weight);
                crowd.step();
            }
        }

        private static void addTo(long[] row, int bid, long weight) {
            if (bid >= 0 && bid < row.length) {
                row[bid] += weight;
            }
        }

        /** Goes down through the LEASTS, so that each adds only the bids that just count again. */
        int pick() {
            int best = TOP;
            long most = 0;
            long sold = 0;
            long withNext = 0;
            long paidByNext = 0;
            for (int least = TOP; least >= 0; least--) {
                sold += high[least];
                withNext += next[least];
                paidByNext += least * next[least];
                long takes = paidByNext + least * (sold - withNext);
                if (takes >= most) {
                    most = takes;
                    best = least;
                }
            }
            return best;
        }
    }

    /** The rows of bids through which FIND goes. */
    private static final class Turns {
        private static final int RESTS = 0;
        private static final int ROUND = 1;
        private static final int SPENT = 2;

        final int[] rows = new int[(MOST_TURNS + 1) * MOST_SIGNS];
        final int[] now = new int[MOST_SIGNS];
        final int[] next = new int[MOST_SIGNS];
        int signs = 0;
        int kept = 0;
        int ending = SPENT;

        /** The first row stands in next. */
        void begin(int howMany) {
            signs = howMany;
            kept = 0;
            ending = SPENT;
            keep();
        }

        boolean goesOn() {
            return ending == SPENT;
        }

        /** A TURN's row stands in next, the one that it came from in now. */
        void close() {
            for (int n = 0; n < kept && ending == SPENT; n++) {
                if (isRow(n)) {
                    ending = n == kept - 1 ? RESTS : ROUND;
                }
            }
            keep();
        }

        private boolean isRow(int n) {
            for (int sign = 0; sign < signs; sign++) {
                if (rows[n * MOST_SIGNS + sign] != next[sign]) {
                    return false;
                }
            }
            return true;
        }

        private void keep() {
            for (int sign = 0; sign < signs && kept <= MOST_TURNS; sign++) {
                rows[kept * MOST_SIGNS + sign] = next[sign];
                now[sign] = next[sign];
            }
            kept++;
        }
    }

    /** Bids in the OPEN. */
    private static final class Rising {
        final int[] leaver = new int[MOST_SEATS];
        final int[] leftAt = new int[MOST_SEATS];
        final boolean[] gone = new boolean[MOST_SEATS];
        final int[] seen = new int[MOST_SEATS];
        int left = 0;
        int winner = NONE;
        int price = 0;

        void rise(Sale sale, int[] laid) {
            left = 0;
            price = sale.least;
            for (int seat = 0; seat < MOST_SEATS; seat++) {
                gone[seat] = false;
            }
            for (int n = 1; n < sale.bidders; n++) {
                oneLeaves(sale, laid);
            }
            winner = NONE;
            for (int seat = 0; seat < sale.bidders; seat++) {
                if (!gone[seat]) {
                    winner = seat;
                }
            }
        }

        private void oneLeaves(Sale sale, int[] laid) {
            int who = NONE;
            int lowest = 0;
            for (int seat = 0; seat < sale.bidders; seat++) {
                if (gone[seat]) {
                    continue;
                }
                int limit = limitOf(sale, laid, seat);
                if (who == NONE || limit < lowest) {
                    who = seat;
                    lowest = limit;
                }
            }
            if (who == NONE || left >= MOST_SEATS) {
                return;
            }
            price = Math.max(price, lowest);
            gone[who] = true;
            leaver[left] = who;
            leftAt[left] = price;
            left++;
        }

        /** HELD of the SIGNS of those who left, and its own for all who are still in. */
        private int limitOf(Sale sale, int[] laid, int seat) {
            for (int other = 0; other < MOST_SEATS; other++) {
                seen[other] = other >= sale.bidders ? NONE : gone[other] ? laid[other] : laid[seat];
            }
            return sale.held(seen[0], seen[1], seen[2], seen[3]);
        }
    }

    /** The latest LEARN. */
    private static final class Learner {
        private static final long TIMES = 6364136223846793005L;
        private static final long PLUS = 1442695040888963407L;

        final int[] row = new int[MOST_SEATS * MOST_SIGNS];
        final int[] gained = new int[MOST_SEATS];
        final int[] sign = new int[MOST_SEATS];
        private Sale of = new Sale();
        private long x = 0;
        int bidders = 0;
        int taken = 0;
        int sorry = 0;

        /** The rows are filled from outside then. */
        void begin(Sale sale, long seed) {
            of = sale;
            x = seed;
            bidders = sale.bidders;
            taken = 0;
            sorry = 0;
            for (int seat = 0; seat < MOST_SEATS; seat++) {
                gained[seat] = 0;
            }
            for (int at = 0; at < MOST_SEATS * MOST_SIGNS; at++) {
                row[at] = 0;
            }
        }

        void round() {
            int truth = drawTruth();
            for (int seat = 0; seat < bidders; seat++) {
                sign[seat] = drawSign(truth);
            }
            int high = highest(NONE);
            if (high == NONE) {
                noneBids(of.value[truth]);
            } else {
                oneWins(of.value[truth], drawWinner(high));
            }
        }

        private int draw(int k) {
            x = x * TIMES + PLUS;
            return k > 0 ? (int) ((x >>> 33) % k) : 0;
        }

        private int drawTruth() {
            int left = draw(of.allWeights());
            for (int t = 0; t < of.truths - 1; t++) {
                left -= of.weight[t];
                if (left < 0) {
                    return t;
                }
            }
            return of.truths > 0 ? of.truths - 1 : 0;
        }

        private int drawSign(int truth) {
            int left = draw(TEN);
            for (int s = 0; s < of.signs - 1; s++) {
                left -= of.seeing(truth, s);
                if (left < 0) {
                    return s;
                }
            }
            return of.signs > 0 ? of.signs - 1 : 0;
        }

        private int drawWinner(int high) {
            int alike = 0;
            for (int seat = 0; seat < bidders; seat++) {
                if (bidNow(seat) == high) {
                    alike++;
                }
            }
            int left = draw(alike);
            for (int seat = 0; seat < bidders; seat++) {
                if (bidNow(seat) == high) {
                    if (left == 0) {
                        return seat;
                    }
                    left--;
                }
            }
            return 0;
        }

        private int bidNow(int seat) {
            return row[seat * MOST_SIGNS + sign[seat]];
        }

        /** The highest bid of all but one SEAT (NONE: of all); NONE without a bid. */
        private int highest(int but) {
            int high = NONE;
            for (int seat = 0; seat < bidders; seat++) {
                int bid = bidNow(seat);
                if (seat != but && bid >= of.least && bid > high) {
                    high = bid;
                }
            }
            return high;
        }

        private void noneBids(int value) {
            for (int seat = 0; seat < bidders && value >= of.least; seat++) {
                move(seat, 1);
            }
        }

        private void oneWins(int value, int winner) {
            int price = bidNow(winner);
            if (of.way == PAY_NEXT) {
                int next = highest(winner);
                price = next == NONE ? of.least : next;
            }
            gained[winner] += value;
            for (int seat = 0; seat < bidders; seat++) {
                int bid = bidNow(seat);
                int pays = seat == winner ? price : of.way == ALL_PAY && bid >= of.least ? bid : 0;
                gained[seat] -= pays;
                taken += pays;
            }
            if (price > value) {
                sorry++;
                move(winner, -1);
            }
            for (int seat = 0; seat < bidders && value > price; seat++) {
                if (seat != winner) {
                    move(seat, 1);
                }
            }
        }

        private void move(int seat, int by) {
            int at = seat * MOST_SIGNS + sign[seat];
            row[at] = Math.max(0, Math.min(TOP, row[at] + by));
        }
    }
}
