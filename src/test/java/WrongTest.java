import java.util.NoSuchElementException;
import java.util.Random;

/**
 * Calls with any arguments in any order: nothing but the two promised NoSuchElementExceptions comes out,
 * what is refused changes nothing that can be asked for, and the same calls give the same answers.
 */
public final class WrongTest {
    private static final Due due = new Due();
    private static final int[] ODD = {Integer.MIN_VALUE, -1000, -3, -2, -1, 0, 0, 1, 1, 2, 3, 4, 5, 6, 7, 8, 9, 10, 11,
        60, 61, 240, 400, 401, Integer.MAX_VALUE};
    private static final String[] TEXTS = {"s 2;t 10 1 8 2;t 20 1 2 8", "s 3;t 7 1 0 1 9;n 1;l 5;w 1",
        "s 5;t 60 9 2 2 2 2 2;t 0 9 10 0 0 0 0;t 33 4 0 0 0 0 10;n 4;w 2", "s 2;t 0 1 10 0;n 3;w 1", "s 4;t 60 1 1 2 3 4;l 60"};
    /** What a call answers that throws. */
    private static final long THROWN = Long.MIN_VALUE;

    public static void main(String[] args) {
        for (int seed = 0; seed < 400; seed++) {
            long first = run(seed);
            due.is("seed " + seed + " again", run(seed), first);
        }
        due.close("WrongTest");
    }

    private static long run(int seed) {
        Random r = new Random(seed);
        SorryToWin x = new SorryToWin();
        long hash = 0;
        for (int n = 0; n < 512; n++) {
            if (r.nextInt(seed % 2 == 0 ? 400 : 12) == 0) {
                x.end(0);
                Due.feed(x, TEXTS[r.nextInt(TEXTS.length)]);
                x.sale();
            }
            hash = hash * 31 + one(x, r, seed % 3 == 0);
        }
        return hash;
    }

    private static int odd(Random r, boolean tame) {
        return tame ? r.nextInt(7) - 2 : r.nextInt(9) == 0 ? r.nextInt() : ODD[r.nextInt(ODD.length)];
    }

    private static long one(SorryToWin x, Random r, boolean tame) {
        int a = odd(r, tame);
        int b = odd(r, tame);
        int c = odd(r, tame);
        int d = odd(r, tame);
        int e = odd(r, tame);
        int f = odd(r, tame);
        boolean z = r.nextBoolean();
        int which = r.nextInt(32);
        String before = which < 8 ? "" : state(x);
        long answer = which < 16 ? low(x, which, a, b, c, d, e, f) : high(x, which, a, b, c, d, z);
        if (which >= 8) {
            boolean may = which == 27 || which == 28 || which == 31;
            due.is("call " + which + " changes nothing", may || before.equals(state(x)), true);
        } else if (answer == SorryToWin.NONE && which != 3) {
            due.is("call " + which, x.count(2) <= 240, true);
        }
        return answer;
    }

    private static String state(SorryToWin x) {
        StringBuilder s = new StringBuilder();
        for (int i = 0; i < 3; i++) {
            s.append(x.count(i)).append(' ');
        }
        for (int sale = 0; sale < x.count(0); sale++) {
            for (int what = 0; what < 6; what++) {
                s.append(x.told(sale, what)).append(' ');
            }
            for (int seat = 0; seat < 4; seat++) {
                s.append(x.bids(sale, seat, 0)).append(' ').append(x.bids(sale, seat, 1)).append(' ');
            }
        }
        return s.toString();
    }

    private static long low(SorryToWin x, int which, int a, int b, int c, int d, int e, int f) {
        switch (which) {
            case 0:
                return x.feed(a, b, c, d, e);
            case 1:
                return x.end(a) ? 1 : 0;
            case 2:
                return x.table();
            case 3:
                return x.sale();
            case 4:
                return x.change(a, b, c) ? 1 : 0;
            case 5:
                return x.bid(a, b, c) ? 1 : 0;
            case 6:
                return x.seat(a, b, c) ? 1 : 0;
            case 7:
                return x.lay(a, b) ? 1 : 0;
            case 8:
                return x.fault();
            case 9:
                return x.told(a, b);
            case 10:
                try {
                    return x.truth(a, b, c);
                } catch (NoSuchElementException none) {
                    return THROWN;
                }
            case 11:
                return x.worth(a, b, c, d, e, f);
            case 12:
                return x.bids(a, b, c);
            case 13:
                return x.cases(a, b);
            case 14:
                return x.gain(a, b);
            default:
                return x.won(a, b, c, d);
        }
    }

    private static long high(SorryToWin x, int which, int a, int b, int c, int d, boolean z) {
        switch (which) {
            case 16:
                return x.less(a, b, c, d);
            case 17:
                return x.best(a, b, c);
            case 18:
                return x.judge(a);
            case 19:
                return x.by(a, b, z, c);
            case 20:
                return x.bar(a, z);
            case 21:
                return x.telling(a);
            case 22:
                return x.near(a, b);
            case 23:
                return x.nearGain(a);
            case 24:
                return x.asOne(a);
            case 25:
                return x.open(a, b);
            case 26:
                return x.leaves(a, b, c);
            case 27:
                return x.find(a, b);
            case 28:
                return x.learn(a, (long) b << 32 ^ c, d);
            case 29:
                try {
                    return x.learned(a, b);
                } catch (NoSuchElementException none) {
                    return THROWN;
                }
            case 30:
                return x.count(a);
            default:
                return x.got();
        }
    }
}
