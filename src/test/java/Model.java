import java.util.ArrayList;
import java.util.Arrays;
import java.util.List;
import java.util.NoSuchElementException;

/**
 * The whole face over again, on top of Slow: what a number, a refusal and a change of state are by the document.
 * It keeps nothing reckoned; every answer is worked out anew.
 */
final class Model {
    private static final long HIDDEN = -1000000000000000L;

    private String tape = "";
    private final List<Slow> sales = new ArrayList<>();
    private final int[][] tables = new int[10][5];
    private int tableCount = 0;
    private final int[] laid = new int[4];
    /** The latest LEARN: its rows, how many SEATS, what the seller got. */
    private int[][] learned = new int[4][6];
    private int learners = 0;
    private int got = 0;

    private static boolean in(int v, int low, int high) {
        return v >= low && v <= high;
    }

    private boolean isSale(int sale) {
        return in(sale, 0, sales.size() - 1);
    }

    private boolean isSeat(int sale, int seat) {
        return isSale(sale) && in(seat, 0, sales.get(sale).bidders - 1);
    }

    private boolean isSign(int sale, int sign) {
        return isSale(sale) && in(sign, 0, sales.get(sale).signs - 1);
    }

    private static long half(long[] fraction, int what) {
        return Slow.cut(fraction[0], fraction[1])[what];
    }

    int feed(int... words) {
        StringBuilder more = new StringBuilder();
        for (int w : words) {
            for (int shift = 24; shift >= 0; shift -= 8) {
                int b = w >> shift & 255;
                if (b != 0) {
                    more.append((char) b);
                }
            }
        }
        if (tape.length() + more.length() > 240) {
            return -1;
        }
        tape += more;
        return tape.length();
    }

    boolean end(int n) {
        if (!in(n, 0, tape.length())) {
            return false;
        }
        tape = tape.substring(0, n);
        return true;
    }

    int fault() {
        return FaultTest.slowFault(tape);
    }

    int sale() {
        if (fault() >= 0 || sales.size() == 8) {
            return -1;
        }
        Slow s = Slow.of(tape);
        s.tables = tables;
        sales.add(s);
        tape = "";
        return sales.size() - 1;
    }

    int told(int sale, int what) {
        if (!isSale(sale) || !in(what, 0, 5)) {
            return -1;
        }
        Slow s = sales.get(sale);
        return new int[] {s.signs, s.value.length, s.bidders, s.least, s.way, Arrays.stream(s.weight).sum()}[what];
    }

    int truth(int sale, int truth, int what) {
        if (!isSale(sale) || !in(truth, 0, sales.get(sale).value.length - 1)) {
            throw new NoSuchElementException();
        }
        if (what != 5 && what != 6 && !isSign(sale, what)) {
            throw new NoSuchElementException();
        }
        Slow s = sales.get(sale);
        return what == 5 ? s.value[truth] : what == 6 ? s.weight[truth] : s.ofTen[truth][what];
    }

    boolean change(int sale, int what, int v) {
        if (!isSale(sale) || !in(what, 0, 2)) {
            return false;
        }
        Slow s = sales.get(sale);
        if (what == 0 && in(v, 1, 4)) {
            s.bidders = v;
        } else if (what == 1 && in(v, 0, 60)) {
            s.least = v;
        } else if (what == 2 && in(v, 0, 2)) {
            s.way = v;
        } else {
            return false;
        }
        return true;
    }

    int worth(int sale, int a, int b, int c, int d, int what) {
        if (!isSign(sale, a) || !in(what, 0, 1)) {
            return -1;
        }
        List<Integer> seen = new ArrayList<>();
        for (int sign : new int[] {a, b, c, d}) {
            if (sign != -1 && !isSign(sale, sign)) {
                return -1;
            }
            if (sign != -1) {
                seen.add(sign);
            }
        }
        long[] mean = sales.get(sale).mean(seen.stream().mapToInt(i -> i).toArray());
        return mean[1] == 0 ? -1 : (int) half(mean, what);
    }

    int table() {
        return tableCount == 10 ? -1 : tableCount++;
    }

    boolean bid(int table, int sign, int v) {
        if (!in(table, 0, tableCount - 1) || !in(sign, 0, 4) || !in(v, 0, 60)) {
            return false;
        }
        tables[table][sign] = v;
        return true;
    }

    boolean seat(int sale, int seat, int table) {
        if (!isSale(sale) || !in(seat, 0, 3) || !in(table, -2, tableCount - 1)) {
            return false;
        }
        sales.get(sale).sitter[seat] = table;
        return true;
    }

    int bids(int sale, int seat, int sign) {
        return isSeat(sale, seat) && isSign(sale, sign) ? sales.get(sale).bidOf(seat, sign) : -1;
    }

    long cases(int sale, int what) {
        if (!isSale(sale) || !in(what, 0, 3)) {
            return -1;
        }
        Slow.Sum sum = sales.get(sale).cases();
        return new long[] {sum.all, sum.takes, sum.sorry, sum.unsold}[what];
    }

    long gain(int sale, int seat) {
        return isSeat(sale, seat) ? sales.get(sale).cases().gain[seat] : HIDDEN;
    }

    /** Upper and lower number of WON; null if there is none. */
    private long[] wonOf(int sale, int seat, int sign, int what) {
        if (!isSeat(sale, seat) || !isSign(sale, sign) || !in(what, 0, 1)) {
            return null;
        }
        Slow.Sum sum = sales.get(sale).cases();
        return sum.wonCases[seat][sign] == 0 ? null : new long[] {sum.wonV[seat][sign], sum.wonCases[seat][sign]};
    }

    long won(int sale, int seat, int sign, int what) {
        long[] won = wonOf(sale, seat, sign, what);
        return won == null ? -1 : half(won, what);
    }

    long less(int sale, int seat, int sign, int what) {
        long[] won = wonOf(sale, seat, sign, what);
        if (won == null) {
            return HIDDEN;
        }
        long[] think = sales.get(sale).mean(sign);
        return half(new long[] {think[0] * won[1] - won[0] * think[1], think[1] * won[1]}, what);
    }

    int best(int sale, int seat, int sign) {
        return isSeat(sale, seat) && isSign(sale, sign) ? sales.get(sale).best(seat, sign) : -1;
    }

    int judge(int sale) {
        return isSale(sale) ? sales.get(sale).judge() : -1;
    }

    int find(int sale, int table) {
        if (!isSale(sale) || !in(table, 0, tableCount - 1)) {
            return -1;
        }
        int[] found = sales.get(sale).find();
        System.arraycopy(found, 1, tables[table], 0, found.length - 1);
        return found[0];
    }

    long by(int sale, int many, boolean wise, int what) {
        return isSale(sale) && in(many, 1, 4) && in(what, 0, 1) ? sales.get(sale).by(many, wise)[what] : -1;
    }

    int bar(int sale, boolean wise) {
        return isSale(sale) ? sales.get(sale).bar(wise) : -1;
    }

    long telling(int sale) {
        return isSale(sale) ? sales.get(sale).telling() : -1;
    }

    int near(int sale, int truth) {
        return isSale(sale) && in(truth, 0, sales.get(sale).value.length - 1) ? sales.get(sale).near(truth) : -1;
    }

    long nearGain(int sale) {
        return isSale(sale) ? sales.get(sale).nearGain() : HIDDEN;
    }

    long asOne(int sale) {
        return isSale(sale) && sales.get(sale).bidders > 1 ? sales.get(sale).asOne() : -1;
    }

    boolean lay(int seat, int sign) {
        if (!in(seat, 0, 3) || !in(sign, 0, 4)) {
            return false;
        }
        laid[seat] = sign;
        return true;
    }

    /** Who wins, its price, then each who left and at what; null if a SIGN is laid that the SALE has not. */
    private int[] opened(int sale) {
        for (int seat = 0; isSeat(sale, seat); seat++) {
            if (!isSign(sale, laid[seat])) {
                return null;
            }
        }
        return isSale(sale) ? sales.get(sale).open(laid) : null;
    }

    int open(int sale, int what) {
        int[] opened = opened(sale);
        return opened != null && in(what, 0, 1) ? opened[what] : -1;
    }

    int leaves(int sale, int i, int what) {
        int[] opened = opened(sale);
        return opened != null && in(what, 0, 1) && in(i, 0, opened.length / 2 - 2) ? opened[2 + 2 * i + what] : -1;
    }

    int learn(int sale, long seed, int rounds) {
        if (!isSale(sale) || !in(rounds, 1, 400)) {
            return -1;
        }
        Slow s = sales.get(sale);
        int sorry = s.learn(seed, rounds);
        learned = s.learned;
        learners = s.bidders;
        got = s.got;
        return sorry;
    }

    int learned(int seat, int what) {
        if (!in(seat, 0, learners - 1) || !in(what, 0, 5)) {
            throw new NoSuchElementException();
        }
        return learned[seat][what];
    }

    int got() {
        return got;
    }

    int count(int what) {
        return in(what, 0, 2) ? new int[] {sales.size(), tableCount, tape.length()}[what] : -1;
    }
}
