import java.util.NoSuchElementException;
import java.util.Random;

/**
 * Runs of up to 512 calls on one object, held against Model: many SALES and TABLES at once, changed between the questions,
 * with arguments just in and just out of bounds. All promises.
 */
public final class RunsTest {
    private static final Due due = new Due();
    private static final int RUNS = 220;
    private static final int CALLS = 512;
    /** How many SIGNS of all bidders and TRUTHS there may be for the calls that Slow does slowly. */
    private static final int SMALL = 40;
    /** What a call answers that throws. */
    private static final long THROWN = Long.MIN_VALUE;

    private final Random r;
    private final SorryToWin x = new SorryToWin();
    private final Model model = new Model();
    private final String name;
    private int calls = 0;
    private String call = "";

    private RunsTest(int seed) {
        r = new Random(seed);
        name = "run " + seed;
    }

    public static void main(String[] args) {
        for (int seed = 0; seed < RUNS; seed++) {
            new RunsTest(seed).run();
        }
        due.close("RunsTest");
    }

    private void run() {
        while (calls < CALLS - 20) {
            int which = r.nextInt(36);
            if (which < 3) {
                aSale();
            } else if (which < 33) {
                one(which - 3, r.nextInt(10) == 0);
            } else if (which < 35) {
                one(9, false);
            } else {
                learnAndAsk();
            }
        }
    }

    private void same(String what, long got, long want) {
        calls++;
        due.is(name + ", call " + calls + ": " + what, got, want);
    }

    private void same(String what, boolean got, boolean want) {
        same(what, got ? 1 : 0, want ? 1 : 0);
    }

    /** A number in bounds, or just out of them, or far. */
    private int in(int low, int high, boolean odd) {
        if (!odd || r.nextInt(3) == 0) {
            return low + r.nextInt(Math.max(1, high - low + 1));
        }
        int[] out = {low - 1, high + 1, low, high, low - 2, high + 2, -1, r.nextInt(), Integer.MIN_VALUE, Integer.MAX_VALUE};
        return out[r.nextInt(out.length)];
    }

    // ---- the TAPE

    private void feed(String text) {
        for (int from = 0; from < text.length(); from += 20) {
            int[] word = new int[5];
            for (int i = 0; i < 20; i++) {
                int b = from + i < text.length() ? text.charAt(from + i) & 255 : 0;
                word[i / 4] = word[i / 4] << 8 | b;
            }
            same("feed", x.feed(word[0], word[1], word[2], word[3], word[4]), model.feed(word));
        }
    }

    private void aSale() {
        if (r.nextInt(3) > 0) {
            same("end 0", x.end(0), model.end(0));
        }
        feed(text());
        if (r.nextInt(8) == 0) {
            int n = in(0, model.count(2), true);
            same("end " + n, x.end(n), model.end(n));
        }
        same("fault", x.fault(), model.fault());
        same("sale", x.sale(), model.sale());
    }

    private String text() {
        int signs = 2 + r.nextInt(r.nextInt(4) == 0 ? 4 : 2);
        StringBuilder b = new StringBuilder("s ").append(signs);
        int truths = 1 + r.nextInt(3);
        for (int t = 0; t < truths; t++) {
            b.append(";t ").append(r.nextInt(61)).append(' ').append(1 + r.nextInt(9));
            int left = 10;
            for (int i = 0; i < signs; i++) {
                int many = i == signs - 1 ? left : r.nextInt(left + 1);
                left -= many;
                b.append(' ').append(many);
            }
        }
        if (r.nextBoolean()) {
            b.append(";n ").append(in(1, 4, r.nextInt(20) == 0));
        }
        if (r.nextInt(3) == 0) {
            b.append(";l ").append(in(0, 60, r.nextInt(20) == 0));
        }
        if (r.nextBoolean()) {
            b.append(";w ").append(r.nextInt(3));
        }
        return b.toString();
    }

    // ---- one call on both

    private boolean small(int sale, int many) {
        int signs = model.told(sale, 0);
        int all = Math.max(1, model.told(sale, 1));
        for (int n = 0; n < many && signs > 0; n++) {
            all *= signs;
        }
        return all <= SMALL;
    }

    private void one(int which, boolean odd) {
        int sale = in(0, model.count(0) - 1, odd && r.nextBoolean());
        int signs = Math.max(2, model.told(sale, 0));
        int seat = in(0, Math.max(1, model.told(sale, 2)) - 1, odd);
        int sign = in(0, signs - 1, odd);
        int half = in(0, 1, odd);
        boolean wise = r.nextBoolean();
        call = " " + sale + " " + seat + " " + sign + " " + half + " " + wise;
        if (which < 10) {
            changing(which, sale, odd);
        } else if (which < 20) {
            asking(which, sale, seat, sign, half, odd);
        } else if (small(sale, model.told(sale, 2))) {
            askingMore(which, sale, seat, sign, half, wise);
        }
    }

    private void changing(int which, int sale, boolean odd) {
        int table = in(0, Math.max(1, model.count(1)) - 1, odd);
        switch (which) {
            case 0:
                int[] w = {r.nextInt(9) == 0 ? ';' << 16 : 0, 0, r.nextInt(9) == 0 ? ' ' : 0, 0, odd ? r.nextInt() : 0};
                same("feed", x.feed(w[0], w[1], w[2], w[3], w[4]), model.feed(w));
                break;
            case 1:
            case 2:
                same("table", x.table(), model.table());
                break;
            case 3:
                int what = in(0, 2, odd);
                int v = what == 1 ? in(0, r.nextBoolean() ? 60 : 20, odd) : in(what == 0 ? 1 : 0, what == 0 ? 4 : 2, odd);
                same("change " + sale + " " + what + " " + v, x.change(sale, what, v), model.change(sale, what, v));
                break;
            case 4:
            case 5:
            case 6:
                int to = in(0, 4, odd);
                int bid = in(0, 60, odd);
                same("bid " + table + " " + to + " " + bid, x.bid(table, to, bid), model.bid(table, to, bid));
                break;
            case 7:
            case 8:
                int at = in(0, 3, odd);
                int who = in(-2, model.count(1) - 1, odd);
                same("seat " + sale + " " + at + " " + who, x.seat(sale, at, who), model.seat(sale, at, who));
                break;
            default:
                int place = in(0, 3, odd);
                int seen = in(0, r.nextInt(4) == 0 ? 4 : 1, odd);
                same("lay " + place + " " + seen, x.lay(place, seen), model.lay(place, seen));
                break;
        }
    }

    private void asking(int which, int sale, int seat, int sign, int half, boolean odd) {
        int i = in(0, 3, odd);
        switch (which) {
            case 10:
                int what = in(0, 5, odd);
                same("told" + call + what, x.told(sale, what), model.told(sale, what));
                break;
            case 11:
                int truth = in(0, model.told(sale, 1) - 1, odd);
                int of = in(0, 6, odd);
                same("truth" + call + truth + " " + of, thrown(() -> x.truth(sale, truth, of)),
                        thrown(() -> model.truth(sale, truth, of)));
                break;
            case 12:
                int b = in(-1, Math.max(2, model.told(sale, 0)) - 1, odd);
                int c = in(-1, 1, odd);
                int d = in(-1, 1, odd);
                same("worth" + call + b + " " + c + " " + d, x.worth(sale, sign, b, c, d, half),
                        model.worth(sale, sign, b, c, d, half));
                break;
            case 13:
                same("bids" + call, x.bids(sale, seat, sign), model.bids(sale, seat, sign));
                break;
            case 14:
                same("cases" + call + i, x.cases(sale, i), model.cases(sale, i));
                break;
            case 15:
                same("gain" + call, x.gain(sale, seat), model.gain(sale, seat));
                break;
            case 16:
                same("won" + call, x.won(sale, seat, sign, half), model.won(sale, seat, sign, half));
                break;
            case 17:
                same("less" + call, x.less(sale, seat, sign, half), model.less(sale, seat, sign, half));
                break;
            case 18:
                same("open" + call, x.open(sale, half), model.open(sale, half));
                break;
            default:
                same("leaves" + call + i, x.leaves(sale, i, half), model.leaves(sale, i, half));
                break;
        }
    }

    private void askingMore(int which, int sale, int seat, int sign, int half, boolean wise) {
        switch (which) {
            case 20:
                same("best" + call, x.best(sale, seat, sign), model.best(sale, seat, sign));
                break;
            case 21:
                same("judge" + call, x.judge(sale), model.judge(sale));
                break;
            case 22:
                int table = in(0, model.count(1) - 1, half > 1);
                same("find" + call + table, x.find(sale, table), model.find(sale, table));
                break;
            case 23:
                int many = in(1, 3, r.nextInt(10) == 0);
                same("by" + call + many, x.by(sale, many, wise, half), model.by(sale, many, wise, half));
                break;
            case 24:
                same("bar" + call, x.bar(sale, wise), model.bar(sale, wise));
                break;
            case 25:
                same("telling" + call, x.telling(sale), model.telling(sale));
                break;
            case 26:
                int truth = in(0, model.told(sale, 1) - 1, half > 1);
                same("near" + call + truth, x.near(sale, truth), model.near(sale, truth));
                break;
            case 27:
                same("nearGain" + call, x.nearGain(sale), model.nearGain(sale));
                break;
            case 28:
                same("asOne" + call, x.asOne(sale), model.asOne(sale));
                break;
            default:
                int what = in(0, 2, true);
                same("count " + what, x.count(what), model.count(what));
                break;
        }
    }

    private void learnAndAsk() {
        int sale = in(0, model.count(0) - 1, r.nextInt(6) == 0);
        int rounds = in(1, 400, r.nextInt(4) == 0);
        long seed = r.nextInt(3) == 0 ? r.nextInt(5) - 2 : r.nextLong();
        same("learn " + sale + " " + seed + " " + rounds, x.learn(sale, seed, rounds), model.learn(sale, seed, rounds));
        for (int n = 0; n < 8; n++) {
            int seat = in(0, 3, n == 0);
            int what = in(0, 5, n == 1);
            same("learned " + seat + " " + what, thrown(() -> x.learned(seat, what)), thrown(() -> model.learned(seat, what)));
        }
        same("got", x.got(), model.got());
    }

    private static long thrown(Due.Asked asked) {
        try {
            return asked.ask();
        } catch (NoSuchElementException none) {
            return THROWN;
        }
    }
}
