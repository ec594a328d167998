import java.util.Random;

/** SorryToWin against Slow on made-up SALES: promises 4 to 32. */
public final class SlowTest {
    private static final Due due = new Due();

    public static void main(String[] args) {
        for (int n = 0; n < 260; n++) {
            Random r = new Random(n);
            int most = n % 20 == 0 ? 5 : n % 3 == 0 ? 4 : 3;
            one("sale " + n, r, most, n % 4 + 1, n % 8 + 1);
        }
        for (int n = 0; n < 6; n++) {
            biggest("big sale " + n, new Random(1000 + n), n % 3 + 2);
        }
        due.close("SlowTest");
    }

    /** Five SIGNS and eight TRUTHS of high weights, with as many BIDDERS as may come: the greatest sums. */
    private static void biggest(String name, Random r, int bidders) {
        Slow slow = made(r, 5, bidders, 8);
        slow.signs = 5;
        slow.value = new int[8];
        slow.weight = new int[8];
        slow.ofTen = new int[8][5];
        for (int t = 0; t < 8; t++) {
            slow.value[t] = 60 - r.nextInt(6) * t;
            slow.weight[t] = 9 - r.nextInt(2);
            for (int i = 0; i < 10; i++) {
                slow.ofTen[t][r.nextInt(3) == 0 ? r.nextInt(5) : t % 5]++;
            }
        }
        slow.least = bidders == 3 ? 0 : 40;
        SorryToWin x = Due.with(text(slow, r));
        tables(name, slow, x, r);
        thinking(name, slow, x, r);
        for (int way = 0; way < 3; way++) {
            slow.way = way;
            due.is(name + " way", x.change(0, 2, way), true);
            cases(name, slow, x);
            due.is(name + " asOne", x.asOne(0), slow.asOne());
            due.is(name + " bar", x.bar(0, way == 1), slow.bar(way == 1));
        }
        due.is(name + " telling", x.telling(0), slow.telling());
        for (int wise = 0; wise < 2; wise++) {
            long[] by = slow.by(4, wise == 1);
            due.is(name + " by up", x.by(0, 4, wise == 1, 0), by[0]);
            due.is(name + " by down", x.by(0, 4, wise == 1, 1), by[1]);
        }
        due.is(name + " near", x.near(0, 7), slow.near(7));
        due.is(name + " best", x.best(0, bidders - 1, 4), slow.best(bidders - 1, 4));
        open(name, slow, x, r);
        learn(name, slow, x, r);
    }

    private static void one(String name, Random r, int mostSigns, int bidders, int mostTruths) {
        Slow slow = made(r, mostSigns, bidders, mostTruths);
        SorryToWin x = Due.with(text(slow, r));
        tables(name, slow, x, r);
        thinking(name, slow, x, r);
        cases(name, slow, x);
        seller(name, slow, x);
        open(name, slow, x, r);
        learn(name, slow, x, r);
        bests(name, slow, x, r);
    }

    private static Slow made(Random r, int mostSigns, int bidders, int mostTruths) {
        Slow s = new Slow();
        s.signs = 2 + r.nextInt(mostSigns - 1);
        int truths = 1 + r.nextInt(bidders > 3 ? Math.min(3, mostTruths) : mostTruths);
        s.value = new int[truths];
        s.weight = new int[truths];
        s.ofTen = new int[truths][s.signs];
        int low = r.nextInt(3) == 0 ? r.nextInt(60) : 0;
        for (int t = 0; t < truths; t++) {
            s.value[t] = r.nextInt(8) == 0 ? 60 : low + r.nextInt(61 - low);
            s.weight[t] = 1 + r.nextInt(9);
            for (int i = 0; i < 10; i++) {
                s.ofTen[t][r.nextInt(3) == 0 ? r.nextInt(s.signs) : t % s.signs]++;
            }
        }
        s.bidders = bidders;
        s.least = r.nextInt(2) == 0 ? 0 : r.nextInt(61);
        s.way = r.nextInt(3);
        for (int i = 0; i < 4; i++) {
            s.sitter[i] = r.nextInt(5) - 2;
        }
        for (int i = 0; i < 3; i++) {
            for (int sign = 0; sign < 5; sign++) {
                s.tables[i][sign] = r.nextInt(61);
            }
        }
        return s;
    }

    private static String text(Slow s, Random r) {
        StringBuilder b = new StringBuilder("s " + s.signs);
        for (int t = 0; t < s.value.length; t++) {
            b.append(";t ").append(s.value[t]).append(' ').append(s.weight[t]);
            for (int m : s.ofTen[t]) {
                b.append(' ').append(m);
            }
        }
        if (s.bidders != 2 || r.nextBoolean()) {
            b.append(";n ").append(s.bidders);
        }
        b.append(";l ").append(s.least).append(";w ").append(s.way);
        return b.toString();
    }

    private static void tables(String name, Slow slow, SorryToWin x, Random r) {
        for (int t = 0; t < 3; t++) {
            due.is(name + " table", x.table(), t);
            for (int sign = 0; sign < 5; sign++) {
                due.is(name + " bid", x.bid(t, sign, slow.tables[t][sign]), true);
            }
        }
        for (int seat = 0; seat < 4; seat++) {
            due.is(name + " seat", x.seat(0, seat, slow.sitter[seat]), true);
        }
        for (int seat = 0; seat < slow.bidders; seat++) {
            for (int sign = 0; sign < slow.signs; sign++) {
                due.is(name + " bids", x.bids(0, seat, sign), slow.bidOf(seat, sign));
            }
        }
        for (int t = 0; t < slow.value.length; t++) {
            due.is(name + " V", x.truth(0, t, 5), slow.value[t]);
            due.is(name + " W", x.truth(0, t, 6), slow.weight[t]);
            for (int sign = 0; sign < slow.signs; sign++) {
                due.is(name + " of ten", x.truth(0, t, sign), slow.ofTen[t][sign]);
            }
        }
    }

    private static void thinking(String name, Slow slow, SorryToWin x, Random r) {
        for (int n = 0; n < 20; n++) {
            int[] asked = new int[4];
            int many = 0;
            int[] seen = new int[4];
            for (int i = 0; i < 4; i++) {
                asked[i] = i > 0 && r.nextBoolean() ? -1 : r.nextInt(slow.signs);
                if (asked[i] >= 0) {
                    seen[many++] = asked[i];
                }
            }
            long[] mean = slow.mean(java.util.Arrays.copyOf(seen, many));
            long[] cut = mean[1] == 0 ? new long[] {-1, -1} : Slow.cut(mean[0], mean[1]);
            for (int what = 0; what < 2; what++) {
                due.is(name + " worth", x.worth(0, asked[0], asked[1], asked[2], asked[3], what), cut[what]);
            }
        }
    }

    private static void cases(String name, Slow slow, SorryToWin x) {
        Slow.Sum sum = slow.cases();
        due.is(name + " cases 0", x.cases(0, 0), sum.all);
        due.is(name + " cases 1", x.cases(0, 1), sum.takes);
        due.is(name + " cases 2", x.cases(0, 2), sum.sorry);
        due.is(name + " cases 3", x.cases(0, 3), sum.unsold);
        for (int seat = 0; seat < slow.bidders; seat++) {
            due.is(name + " gain " + seat, x.gain(0, seat), sum.gain[seat]);
            for (int sign = 0; sign < slow.signs; sign++) {
                long v = sum.wonV[seat][sign];
                long c = sum.wonCases[seat][sign];
                long[] won = c == 0 ? new long[] {-1, -1} : Slow.cut(v, c);
                long[] m = slow.mean(sign);
                long hidden = SorryToWin.HIDDEN;
                long[] less = c == 0 ? new long[] {hidden, hidden} : Slow.cut(m[0] * c - v * m[1], m[1] * c);
                for (int what = 0; what < 2; what++) {
                    due.is(name + " won", x.won(0, seat, sign, what), won[what]);
                    due.is(name + " less", x.less(0, seat, sign, what), less[what]);
                }
            }
        }
    }

    private static void seller(String name, Slow slow, SorryToWin x) {
        for (int wise = 0; wise < 2; wise++) {
            for (int many = 1; many <= (slow.signs > 3 ? 3 : 4); many++) {
                long[] by = slow.by(many, wise == 1);
                due.is(name + " by up", x.by(0, many, wise == 1, 0), by[0]);
                due.is(name + " by down", x.by(0, many, wise == 1, 1), by[1]);
            }
            if (slow.signs < 4 || slow.bidders < 4) {
                due.is(name + " bar " + wise, x.bar(0, wise == 1), slow.bar(wise == 1));
            }
        }
        due.is(name + " telling", x.telling(0), slow.telling());
        due.is(name + " asOne", x.asOne(0), slow.bidders < 2 ? -1 : slow.asOne());
        if (slow.signs < 4 || slow.bidders < 4) {
            for (int t = 0; t < slow.value.length; t++) {
                due.is(name + " near " + t, x.near(0, t), slow.near(t));
            }
            due.is(name + " nearGain", x.nearGain(0), slow.nearGain());
        }
    }

    private static void open(String name, Slow slow, SorryToWin x, Random r) {
        for (int n = 0; n < 10; n++) {
            int[] laid = new int[4];
            for (int seat = 0; seat < 4; seat++) {
                laid[seat] = seat < slow.bidders ? r.nextInt(slow.signs) : r.nextInt(5);
                due.is(name + " lay", x.lay(seat, laid[seat]), true);
            }
            int[] out = slow.open(laid);
            for (int i = 0; i < slow.bidders - 1; i++) {
                due.is(name + " leaves " + i, x.leaves(0, i, 0), out[2 * i + 2]);
                due.is(name + " leaves at " + i, x.leaves(0, i, 1), out[2 * i + 3]);
            }
            due.is(name + " open", x.open(0, 0), out[0]);
            due.is(name + " open at", x.open(0, 1), out[1]);
        }
    }

    private static void learn(String name, Slow slow, SorryToWin x, Random r) {
        for (int n = 0; n < 3; n++) {
            long seed = r.nextLong();
            int rounds = 1 + r.nextInt(400);
            due.is(name + " learn", x.learn(0, seed, rounds), slow.learn(seed, rounds));
            due.is(name + " got", x.got(), slow.got);
            for (int seat = 0; seat < slow.bidders; seat++) {
                for (int what = 0; what < 6; what++) {
                    int at = seat;
                    int of = what;
                    due.is(name + " learned " + seat + " " + what, x.learned(at, of), slow.learned[seat][what]);
                }
            }
        }
    }

    private static void bests(String name, Slow slow, SorryToWin x, Random r) {
        if (slow.bidders == 4 && slow.signs > 2) {
            return;
        }
        for (int seat = 0; seat < slow.bidders; seat++) {
            for (int sign = 0; sign < slow.signs; sign++) {
                due.is(name + " best " + seat + " " + sign, x.best(0, seat, sign), slow.best(seat, sign));
            }
        }
        due.is(name + " judge", x.judge(0), slow.judge());
        int[] found = slow.find();
        due.is(name + " find", x.find(0, 2), found[0]);
        x.seat(0, 0, 2);
        for (int sign = 0; sign < slow.signs; sign++) {
            due.is(name + " found " + sign, x.bids(0, 0, sign), found[sign + 1]);
        }
    }
}
