/**
 * The document over again, case by case and as slowly as its words go, to compare SorryToWin with.
 * It shares no code and no short cut with it.
 */
final class Slow {
    static final int NO_BID = -1;

    int signs;
    int[] value;
    int[] weight;
    int[][] ofTen;
    int bidders = 2;
    int least = 0;
    int way = 0;
    int[] sitter = {-1, -1, -1, -1};
    int[][] tables = new int[10][5];

    /** Who bids what in one case: seen are the SIGNS of the bidders, his is the seller's (or -1). */
    interface Bids {
        int of(int seat, int[] seen, int his, int truth);
    }

    /** Which cases count. */
    interface Only {
        boolean counts(int[] seen, int truth);
    }

    static final class Sum {
        long all, takes, sorry, unsold;
        long[] gain = new long[4];
        long[][] wonV = new long[4][5];
        long[][] wonCases = new long[4][5];
    }

    /** A text without a FAULT. */
    static Slow of(String text) {
        Slow s = new Slow();
        java.util.List<int[]> truths = new java.util.ArrayList<>();
        for (String clause : text.split(";")) {
            String[] words = clause.trim().split(" +");
            int[] v = new int[words.length - 1];
            for (int i = 0; i < v.length; i++) {
                v[i] = Integer.parseInt(words[i + 1]);
            }
            switch (words[0]) {
                case "s":
                    s.signs = v[0];
                    break;
                case "t":
                    truths.add(v);
                    break;
                case "n":
                    s.bidders = v[0];
                    break;
                case "l":
                    s.least = v[0];
                    break;
                default:
                    s.way = v[0];
                    break;
            }
        }
        s.value = truths.stream().mapToInt(v -> v[0]).toArray();
        s.weight = truths.stream().mapToInt(v -> v[1]).toArray();
        s.ofTen = truths.stream().map(v -> java.util.Arrays.copyOfRange(v, 2, v.length)).toArray(int[][]::new);
        return s;
    }

    // ---- thinking

    long[] mean(int... seen) {
        long up = 0;
        long down = 0;
        for (int t = 0; t < value.length; t++) {
            long w = weight[t];
            for (int s : seen) {
                w *= ofTen[t][s];
            }
            up += w * value[t];
            down += w;
        }
        return new long[] {up, down};
    }

    int held(int... seen) {
        long[] m = mean(seen);
        return m[1] == 0 ? 0 : (int) (m[0] / m[1]);
    }

    static long[] cut(long up, long down) {
        java.math.BigInteger a = java.math.BigInteger.valueOf(up);
        java.math.BigInteger g = a.gcd(java.math.BigInteger.valueOf(down));
        return new long[] {up / g.longValue(), down / g.longValue()};
    }

    int plain(int n, boolean wise, int sign) {
        return wise && n > 1 ? held(sign, sign) : held(sign);
    }

    int bidOf(int seat, int sign) {
        return sitter[seat] >= 0 ? tables[sitter[seat]][sign] : plain(bidders, sitter[seat] == -2, sign);
    }

    // ---- cases

    /** All cases with the SIGNS of the seats from..n-1 (those before have SIGN 0 and no weight), and the seller's. */
    Sum sum(int from, int n, boolean seller, Bids bids, Only only) {
        Sum out = new Sum();
        int[] seen = new int[n];
        for (int his = seller ? 0 : -1; his < (seller ? signs : 0); his++) {
            walk(from, from, n, his, seen, bids, only, out);
        }
        return out;
    }

    private void walk(int at, int from, int n, int his, int[] seen, Bids bids, Only only, Sum out) {
        if (at < n) {
            for (int s = 0; s < signs; s++) {
                seen[at] = s;
                walk(at + 1, from, n, his, seen, bids, only, out);
            }
            return;
        }
        for (int t = 0; t < value.length; t++) {
            long w = weight[t];
            for (int seat = from; seat < n; seat++) {
                w *= ofTen[t][seen[seat]];
            }
            if (his >= 0) {
                w *= ofTen[t][his];
            }
            if (only.counts(seen, t)) {
                for (int c = 0; c < 12; c++) {
                    oneCase(c, w, t, n, seen, his, bids, out);
                }
            }
        }
    }

    private void oneCase(int c, long w, int t, int n, int[] seen, int his, Bids bids, Sum out) {
        int[] bid = new int[n];
        for (int seat = 0; seat < n; seat++) {
            int b = bids.of(seat, seen, his, t);
            bid[seat] = b < least ? NO_BID : b;
        }
        out.all += w;
        int[] tops = tops(bid);
        if (tops.length == 0) {
            out.unsold += w;
            return;
        }
        int winner = tops[c * tops.length / 12];
        int price = price(bid, winner);
        for (int seat = 0; seat < n; seat++) {
            int pays = seat == winner ? price : way == 2 && bid[seat] != NO_BID ? bid[seat] : 0;
            out.takes += w * pays;
            out.gain[seat] -= w * pays;
        }
        out.gain[winner] += w * value[t];
        if (price > value[t]) {
            out.sorry += w;
        }
        out.wonV[winner][seen[winner]] += w * value[t];
        out.wonCases[winner][seen[winner]] += w;
    }

    /** The seats with the highest bid. */
    static int[] tops(int[] bid) {
        int high = NO_BID;
        for (int b : bid) {
            high = Math.max(high, b);
        }
        int[] found = new int[bid.length];
        int m = 0;
        for (int seat = 0; seat < bid.length; seat++) {
            if (high != NO_BID && bid[seat] == high) {
                found[m++] = seat;
            }
        }
        return java.util.Arrays.copyOf(found, m);
    }

    int price(int[] bid, int winner) {
        if (way != 1) {
            return bid[winner];
        }
        int next = NO_BID;
        for (int seat = 0; seat < bid.length; seat++) {
            if (seat != winner) {
                next = Math.max(next, bid[seat]);
            }
        }
        return next == NO_BID ? least : next;
    }

    Sum cases() {
        return sum(0, bidders, false, (seat, seen, his, t) -> bidOf(seat, seen[seat]), (seen, t) -> true);
    }

    // ---- BEST and its like

    /** GAIN of a SEAT over cases with a SIGN if it bids so with it. */
    long gainWith(int seat, int sign, int bid) {
        Bids b = (s, seen, his, t) -> s == seat ? bid : bidOf(s, seen[s]);
        return sum(0, bidders, false, b, (seen, t) -> seen[seat] == sign).gain[seat];
    }

    int best(int seat, int sign) {
        int best = 0;
        long most = gainWith(seat, sign, 0);
        for (int bid = 1; bid <= 60; bid++) {
            long g = gainWith(seat, sign, bid);
            if (g > most) {
                most = g;
                best = bid;
            }
        }
        return best;
    }

    int judge() {
        for (int seat = 0; seat < bidders; seat++) {
            for (int sign = 0; sign < signs; sign++) {
                long most = gainWith(seat, sign, best(seat, sign));
                if (gainWith(seat, sign, bidOf(seat, sign)) < most) {
                    return 10 * seat + sign;
                }
            }
        }
        return -1;
    }

    /** How it ends, then the row. */
    int[] find() {
        java.util.List<java.util.List<Integer>> before = new java.util.ArrayList<>();
        java.util.List<Integer> row = new java.util.ArrayList<>();
        for (int s = 0; s < signs; s++) {
            row.add(held(s));
        }
        int ends = 2;
        for (int turn = 1; turn <= 20 && ends == 2; turn++) {
            java.util.List<Integer> now = row;
            java.util.List<Integer> next = new java.util.ArrayList<>();
            for (int s = 0; s < signs; s++) {
                next.add(bestAgainst(now, s));
            }
            before.add(now);
            if (next.equals(now)) {
                ends = 0;
            } else if (before.contains(next)) {
                ends = 1;
            }
            row = next;
        }
        int[] out = new int[signs + 1];
        out[0] = ends;
        for (int s = 0; s < signs; s++) {
            out[s + 1] = row.get(s);
        }
        return out;
    }

    private int bestAgainst(java.util.List<Integer> row, int sign) {
        int best = 0;
        long most = Long.MIN_VALUE;
        for (int bid = 0; bid <= 60; bid++) {
            int b = bid;
            Bids all = (seat, seen, his, t) -> seat == 0 ? b : row.get(seen[seat]);
            long g = sum(0, bidders, false, all, (seen, t) -> seen[0] == sign).gain[0];
            if (g > most) {
                most = g;
                best = bid;
            }
        }
        return best;
    }

    // ---- the seller

    long[] by(int many, boolean wise) {
        Sum s = sum(0, many, false, (seat, seen, his, t) -> plain(many, wise, seen[seat]), (seen, t) -> true);
        return cut(s.takes, s.all);
    }

    int bar(boolean wise) {
        int kept = least;
        int best = 0;
        long most = -1;
        for (least = 0; least <= 60; least++) {
            long takes = sum(0, bidders, false, (seat, seen, his, t) -> plain(bidders, wise, seen[seat]),
                    (seen, t) -> true).takes;
            if (takes > most) {
                most = takes;
                best = least;
            }
        }
        least = kept;
        return best;
    }

    long telling() {
        Bids told = (seat, seen, his, t) -> {
            if (sitter[seat] >= 0) {
                return tables[sitter[seat]][seen[seat]];
            }
            return sitter[seat] == -2 && bidders > 1 ? held(seen[seat], seen[seat], his) : held(seen[seat], his);
        };
        return sum(0, bidders, true, told, (seen, t) -> true).takes;
    }

    long nearWith(int truth, int bid) {
        Bids b = (seat, seen, his, t) -> seat == 0 ? bid : bidOf(seat, seen[seat]);
        return sum(1, bidders, false, b, (seen, t) -> t == truth).gain[0];
    }

    int near(int truth) {
        int best = 0;
        for (int bid = 1; bid <= 60; bid++) {
            if (nearWith(truth, bid) > nearWith(truth, best)) {
                best = bid;
            }
        }
        return best;
    }

    long nearGain() {
        long sum = 0;
        for (int t = 0; t < value.length; t++) {
            sum += nearWith(t, near(t));
        }
        return sum;
    }

    long asOne() {
        Bids b = (seat, seen, his, t) -> seat == 0 ? held(seen[0], seen[1]) : seat == 1 ? NO_BID : bidOf(seat, seen[seat]);
        return sum(0, bidders, false, b, (seen, t) -> true).takes;
    }

    // ---- OPEN and LEARN

    /** Who wins, what it pays, then who left and at what, by turns. */
    int[] open(int[] laid) {
        java.util.List<Integer> still = new java.util.ArrayList<>();
        java.util.List<Integer> left = new java.util.ArrayList<>();
        int[] out = new int[2 * bidders];
        for (int seat = 0; seat < bidders; seat++) {
            still.add(seat);
        }
        int price = least;
        while (still.size() > 1) {
            int who = -1;
            int lowest = 1000;
            for (int seat : still) {
                int[] seen = new int[bidders];
                java.util.Arrays.fill(seen, laid[seat]);
                for (int i = 0; i < left.size(); i++) {
                    seen[i] = laid[left.get(i)];
                }
                if (held(seen) < lowest) {
                    lowest = held(seen);
                    who = seat;
                }
            }
            price = Math.max(price, lowest);
            still.remove(Integer.valueOf(who));
            left.add(who);
            out[2 * left.size()] = who;
            out[2 * left.size() + 1] = price;
        }
        out[0] = still.get(0);
        out[1] = price;
        return out;
    }

    long x;
    int[][] learned = new int[4][6];
    int got;

    int draw(int k) {
        x = x * 6364136223846793005L + 1442695040888963407L;
        return (int) ((x >>> 33) % k);
    }

    static int pick(int[] parts, int d) {
        int i = 0;
        while (d >= parts[i]) {
            d -= parts[i];
            i++;
        }
        return i;
    }

    int learn(long seed, int rounds) {
        x = seed;
        got = 0;
        learned = new int[4][6];
        for (int seat = 0; seat < bidders; seat++) {
            for (int s = 0; s < signs; s++) {
                learned[seat][s] = bidOf(seat, s);
            }
        }
        int sum = 0;
        for (int w : weight) {
            sum += w;
        }
        int sorry = 0;
        for (int n = 0; n < rounds; n++) {
            int t = pick(weight, draw(sum));
            int[] seen = new int[bidders];
            int[] bid = new int[bidders];
            for (int seat = 0; seat < bidders; seat++) {
                seen[seat] = pick(ofTen[t], draw(10));
                bid[seat] = learned[seat][seen[seat]] < least ? NO_BID : learned[seat][seen[seat]];
            }
            int[] tops = tops(bid);
            if (tops.length == 0) {
                for (int seat = 0; seat < bidders; seat++) {
                    if (value[t] >= least && learned[seat][seen[seat]] < 60) {
                        learned[seat][seen[seat]]++;
                    }
                }
                continue;
            }
            int winner = tops[draw(tops.length)];
            int price = price(bid, winner);
            learned[winner][5] += value[t];
            for (int seat = 0; seat < bidders; seat++) {
                int pays = seat == winner ? price : way == 2 && bid[seat] != NO_BID ? bid[seat] : 0;
                learned[seat][5] -= pays;
                got += pays;
                int now = learned[seat][seen[seat]];
                if (seat == winner && price > value[t]) {
                    learned[seat][seen[seat]] = Math.max(0, now - 1);
                }
                if (seat != winner && value[t] > price) {
                    learned[seat][seen[seat]] = Math.min(60, now + 1);
                }
            }
            if (price > value[t]) {
                sorry++;
            }
        }
        return sorry;
    }
}
