import java.math.BigInteger;
import java.util.ArrayList;
import java.util.List;

/**
 * The document's boundary cases, promise by promise: too small, too large, empty, full, going round, refused.
 * Before each group of checks stands, in quotes, the sentence that it holds to.
 */
public final class EdgesTest {
    private static final int NONE = SorryToWin.NONE;
    private static final long HIDDEN = SorryToWin.HIDDEN;
    private static final int LOW = Integer.MIN_VALUE;
    private static final int HIGH = Integer.MAX_VALUE;
    /** Two TRUTHS, two SIGNS that hint at them: HELD 12 and 18. */
    private static final String HINTS = "s 2;t 10 1 8 2;t 20 1 2 8";
    /** One TRUTH of V 10, all see SIGN 0. */
    private static final String ONE = "s 2;t 10 1 10 0";
    /** The most of all: SIGNS, TRUTHS, V, W, BIDDERS, LEAST, WAY. */
    private static final String MOST = "s 5" + ";t 60 9 0 0 0 0 10".repeat(8) + ";n 4;l 60;w 2";
    /** The least of all. */
    private static final String FEWEST = "s 2;t 0 1 0 10;n 1;l 0;w 0";
    private static final Due due = new Due();

    public static void main(String[] args) {
        newObject();
        feeds();
        ends();
        faultsOfLetters();
        faultsOfNumbers();
        faultsOfTruths();
        salesAre();
        toldAre();
        truthsAre();
        changesAre();
        worthsAre();
        tablesAre();
        seatsAre();
        bidsAre();
        leastAndWays();
        alikes();
        casesAre();
        gainsAre();
        wonsAre();
        bestsAre();
        judged();
        finds();
        bys();
        bars();
        tellings();
        nears();
        asOnes();
        lays();
        opens();
        learns();
        learnsGoRound();
        learnedAre();
        counts();
        due.close("EdgesTest");
    }

    // ---- promise 1

    /** "No SALES." and "SEATS .. each a TABLE": none of these yet. */
    private static void newObject() {
        SorryToWin x = new SorryToWin();
        for (int sale : new int[] {0, 7, 8, NONE, LOW, HIGH}) {
            allRefuse("new object", x, sale);
        }
        due.is("no TABLE to bid in", x.bid(0, 0, 0), false);
        due.is("got 0 without a LEARN", x.got(), 0);
        due.none("learned without a LEARN", () -> x.learned(0, 0));
        due.none("learned 5 without a LEARN", () -> x.learned(0, 5));
        for (int what = 0; what < 3; what++) {
            due.is("count " + what, x.count(what), 0);
        }
    }

    /** Every call that names a SALE, with a number that no SALE has. */
    private static void allRefuse(String name, SorryToWin x, int sale) {
        due.is(name + ": told", x.told(sale, 0), NONE);
        due.none(name + ": truth", () -> x.truth(sale, 0, 5));
        due.is(name + ": change", x.change(sale, 0, 1), false);
        due.is(name + ": worth", x.worth(sale, 0, NONE, NONE, NONE, 0), NONE);
        due.is(name + ": seat", x.seat(sale, 0, -1), false);
        due.is(name + ": bids", x.bids(sale, 0, 0), NONE);
        due.is(name + ": cases", x.cases(sale, 0), NONE);
        due.is(name + ": gain", x.gain(sale, 0), HIDDEN);
        due.is(name + ": won", x.won(sale, 0, 0, 0), NONE);
        due.is(name + ": less", x.less(sale, 0, 0, 0), HIDDEN);
        due.is(name + ": best", x.best(sale, 0, 0), NONE);
        due.is(name + ": judge", x.judge(sale), NONE);
        due.is(name + ": find", x.find(sale, 0), NONE);
        due.is(name + ": by", x.by(sale, 1, false, 0), NONE);
        due.is(name + ": bar", x.bar(sale, false), NONE);
        due.is(name + ": bar of the WISE", x.bar(sale, true), NONE);
        due.is(name + ": telling", x.telling(sale), NONE);
        due.is(name + ": near", x.near(sale, 0), NONE);
        due.is(name + ": nearGain", x.nearGain(sale), HIDDEN);
        due.is(name + ": asOne", x.asOne(sale), NONE);
        due.is(name + ": open", x.open(sale, 0), NONE);
        due.is(name + ": leaves", x.leaves(sale, 0, 0), NONE);
        due.is(name + ": learn", x.learn(sale, 1, 1), NONE);
    }

    // ---- promises 2 and 3: the TAPE

    /** "of each number the highest first; bytes of 0 are left out", "NONE: more than 240". */
    private static void feeds() {
        SorryToWin x = new SorryToWin();
        due.is("nothing on an empty TAPE", x.feed(0, 0, 0, 0, 0), 0);
        due.is("one byte of twenty", x.feed(0, 0, 0, 0, 's'), 1);
        due.is("the highest of a number below 0", x.feed(0x80000000, 0, 0, 0, 0), 2);
        due.is("it is a byte", x.fault(), 1);
        x.end(1);
        due.is("zeros round each byte", x.feed(' ' << 16, '2' << 8, ';' << 24, 't', 0), 5);
        due.is("left out, in their order", x.fault(), 5);
        due.is("ends early by the order of bytes", x.feed(0x20352031, 0x20302031, '0' << 24, 0, 0), 14);
        due.is("highest first", x.fault(), NONE);
        x.end(0);
        int twenty = 0x20202020;
        for (int n = 1; n < 12; n++) {
            x.feed(twenty, twenty, twenty, twenty, twenty);
        }
        due.is("239", x.feed(twenty, twenty, twenty, twenty, 0x20202000), 239);
        due.is("241 is refused", x.feed(0, 0, 0, 0, 0x2020), NONE);
        due.is("refused: none of it comes", x.count(2), 239);
        due.is("259 is refused", x.feed(twenty, twenty, twenty, twenty, twenty), NONE);
        due.is("240 is full", x.feed(0, 0, 's', 0, 0), 240);
        due.is("241 by one", x.feed(' ', 0, 0, 0, 0), NONE);
        due.is("nothing more is not too many", x.feed(0, 0, 0, 0, 0), 240);
        due.is("the last byte is read", x.fault(), 240);
        x.end(239);
        x.feed('x', 0, 0, 0, 0);
        due.is("the last byte may be wrong", x.fault(), 239);
        eachByteCounts();
        full();
    }

    /** Each byte but 0 is one, wherever it stands. */
    private static void eachByteCounts() {
        for (int b = 1; b < 256; b++) {
            SorryToWin x = new SorryToWin();
            Due.feed(x, "x".repeat(240));
            for (int i = 0; i < 20; i++) {
                int[] w = new int[5];
                w[i / 4] = b << 24 - 8 * (i % 4);
                due.is("byte " + b + " on a full TAPE, place " + i, x.feed(w[0], w[1], w[2], w[3], w[4]), NONE);
                x.end(239);
                due.is("byte " + b + " fills it, place " + i, x.feed(w[0], w[1], w[2], w[3], w[4]), 240);
            }
        }
    }

    /** A SALE whose text fills the TAPE. */
    private static void full() {
        SorryToWin x = new SorryToWin();
        due.is("240 bytes", Due.feed(x, MOST + " ".repeat(240 - MOST.length())), 240);
        due.is("a SALE of 240 bytes", x.fault(), NONE);
        due.is("is taken", x.sale(), 0);
        due.is("the TAPE is empty then", x.count(2), 0);
        due.is("and takes as much again", Due.feed(x, " ".repeat(240 - HINTS.length()) + HINTS), 240);
        due.is("taken, too", x.sale(), 1);
        due.is("read to its end", x.truth(1, 1, 1), 8);
    }

    /** "The TAPE has its first n bytes alone. False: n." */
    private static void ends() {
        SorryToWin x = new SorryToWin();
        due.is("0 of nothing", x.end(0), true);
        due.is("1 of nothing", x.end(1), false);
        due.is("-1 of nothing", x.end(-1), false);
        Due.feed(x, "s 2;x");
        for (int n : new int[] {-1, 6, 240, LOW, HIGH}) {
            due.is("end " + n, x.end(n), false);
            due.is("nothing is cut by " + n, x.count(2), 5);
        }
        due.is("all it has", x.end(5), true);
        due.is("nothing is cut", x.fault(), 4);
        due.is("all but one", x.end(4), true);
        due.is("what was cut is gone", x.end(5), false);
        Due.feed(x, "t 5 1 0 10");
        due.is("what comes stands behind the cut", x.fault(), NONE);
        due.is("all", x.end(0), true);
        due.is("empty", x.count(2), 0);
        due.is("an empty TAPE ends too early", x.fault(), 0);
    }

    // ---- promise 4: FAULTS

    private static void at(String text, int want) {
        due.is("fault of '" + text + "'", Due.faultOf(text), want);
    }

    /** "first s", "with ; ahead of each", "any of", "as many as one likes", "a ninth t, a second s". */
    private static void faultsOfLetters() {
        String t = "t 5 1 0 10";
        at("x", 0);
        at("n 2;s 2;" + t, 0);
        at("s 2 " + t, 4);
        at("s 2;" + t + ";", 15);
        at("s 2;" + t + ";;n 2", 15);
        at("s 2;" + t + ";x", 15);
        at("s 2;" + t + ";S 2", 15);
        at("s 2;" + t + ";s 2", 15);
        at("s 2;" + t + "s", 14);
        at("s 2;" + t + "   ;   s", 21);
        at("s 2;n 1;l 0;w 0", 15);
        at("s 2;n 1;n 1;l 1;l 1;w 1;w 1;" + t, NONE);
        at("    s 2   ;   " + t + "   ;   n 1   ", NONE);
        at("s 2\t;" + t, 3);
        at("s 2;" + t + "\n", 14);
        at("s\t2", 1);
        String seven = "s 2" + (";" + t).repeat(7);
        at(seven, NONE);
        at(seven + ";" + t, NONE);
        at(seven + ";" + t + ";" + t, 3 + 8 * 11 + 1);
        at(seven + ";" + t + "; t", 3 + 8 * 11 + 2);
        at(seven + ";" + t + ";n 1;" + t, 3 + 8 * 11 + 5);
        at(seven + ";" + t + ";l 1", NONE);
        beginnings();
    }

    /** "the length, if it ends too early": a beginning of a SALE has no wrong byte. */
    private static void beginnings() {
        String whole = " s  3 ; n 3;t 60 9 3 3 4;w 2; l 59 ";
        int aTruth = whole.indexOf("4;") + 1;
        for (int n = 0; n <= whole.length(); n++) {
            String begun = whole.substring(0, n).stripTrailing();
            boolean amidst = begun.endsWith(";") || begun.endsWith("w") || begun.endsWith("l");
            at(whole.substring(0, n), n >= aTruth && !amidst ? NONE : n);
        }
    }

    /** "Numbers of one or two digits, one blank or more ahead of each", "out of bounds is wrong at its last digit". */
    private static void faultsOfNumbers() {
        String[] letter = {"s", "s 2;n", "s 2;l", "s 2;w", "s 2;t", "s 2;t 01"};
        int[] low = {2, 1, 0, 0, 0, 1};
        int[] high = {5, 4, 60, 2, 60, 9};
        for (int i = 0; i < letter.length; i++) {
            int n = letter[i].length();
            for (int v = 0; v < 100; v++) {
                boolean right = v >= low[i] && v <= high[i];
                if (v < 10) {
                    at(letter[i] + " " + v, right ? n + 2 : n + 1);
                    at(letter[i] + " " + v + ";x", right ? behind(letter[i], n + 2) : n + 1);
                    at(letter[i] + " 0" + v, right ? n + 3 : n + 2);
                } else {
                    at(letter[i] + " " + v, right ? n + 3 : n + 2);
                }
                at(letter[i] + " " + (v < 10 ? "0" : "") + v + "0", right ? n + 3 : n + 2);
            }
            at(letter[i], n);
            at(letter[i] + " ", n + 1);
            at(letter[i] + "   " + high[i] + " x", n + 3 + (high[i] > 9 ? 3 : 2));
            at(letter[i] + high[i], n);
            at(letter[i] + " -1", n + 1);
            at(letter[i] + " +1", n + 1);
            at(letter[i] + ";", n);
            at(letter[i] + " ;", n + 1);
            at(letter[i] + " " + (char) ('0' - 1), n + 1);
            at(letter[i] + " " + (char) ('9' + 1), n + 1);
            at(letter[i] + (char) 31 + high[i], n);
            at(letter[i] + (char) 33 + high[i], n);
            at(letter[i] + (char) (32 + 128) + high[i], n);
        }
    }

    /** Where ;x behind such a number is wrong: at the ; within a TRUTH, else at the x. */
    private static int behind(String letter, int length) {
        return letter.contains("t") ? length : length + 1;
    }

    /** "0 .. 10 each, 10 in all", "brings more than 10 in all", "the last one of a TRUTH, if it does not bring just 10". */
    private static void faultsOfTruths() {
        String t = "s 3;t 5 1";
        for (int a = 0; a <= 12; a++) {
            for (int b = 0; b <= 12; b++) {
                for (int c = 0; c <= 12; c++) {
                    String text = t + " " + a + " " + b + " " + c;
                    int first = (t + " " + a).length();
                    int second = (t + " " + a + " " + b).length();
                    int last = text.length();
                    at(text, a > 10 ? first - 1 : a + b > 10 ? second - 1 : a + b + c != 10 ? last - 1 : NONE);
                }
            }
        }
        at("s 2;t 5 1 10 00", NONE);
        at("s 2;t 5 1 00 10", NONE);
        at("s 2;t 5 1 09 01", NONE);
        at("s 2;t 5 1 09 02", 14);
        at("s 2;t 5 1 5", 11);
        at("s 2;t 5 1 5 ", 12);
        at("s 2;t 5 1 5;n 1", 11);
        at("s 2;t 5 1 5 ;n 1", 12);
        at("s 2;t 5 1 5 5 0", 14);
        at("s 5;t 5 1 2 2 2 2", 17);
        at("s 5;t 5 1 2 2 2 2 2", NONE);
        at("s 5;t 5 1 0 0 0 0 9", 18);
        at("s 5;t 5 1 10 0 0 0 0", NONE);
        at("s 5;t 5 1 10 1 0 0 0", 13);
        at("s 2;t 5 1 0 10;t 5 1 0 9", 23);
    }

    // ---- promises 5 to 8: SALES

    /** "The TAPE (empty then; if refused it stays)", "NONE: a FAULT, there are eight", "SALES (8 at most)". */
    private static void salesAre() {
        SorryToWin x = new SorryToWin();
        due.is("an empty TAPE is none", x.sale(), NONE);
        Due.feed(x, "s 2");
        due.is("without a TRUTH none", x.sale(), NONE);
        due.is("refused: it stays", x.count(2), 3);
        due.is("refused: as it was", x.fault(), 3);
        due.is("refused: no SALE", x.count(0), 0);
        Due.feed(x, ";t 5 1 0 10");
        due.is("goes on to be one", x.sale(), 0);
        due.is("the TAPE is empty then", x.count(2), 0);
        due.is("empty: it ends too early", x.fault(), 0);
        due.is("not taken twice", x.sale(), NONE);
        for (int n = 1; n < 8; n++) {
            Due.feed(x, "s 2;t " + n + " 1 0 10");
            due.is("its number", x.sale(), n);
            due.is("how many", x.count(0), n + 1);
            due.is("no number beyond", x.told(n + 1, 0), NONE);
        }
        Due.feed(x, HINTS);
        due.is("there are eight", x.sale(), NONE);
        due.is("still eight", x.count(0), 8);
        due.is("the TAPE stays", x.count(2), HINTS.length());
        due.is("there is no FAULT", x.fault(), NONE);
        x.end(4);
        due.is("a FAULT and eight", x.sale(), NONE);
        for (int n = 1; n < 8; n++) {
            due.is("each is its own", x.truth(n, 0, 5), n);
        }
        for (int sale : new int[] {-1, 8, LOW, HIGH}) {
            allRefuse("SALE " + sale + " of eight", x, sale);
        }
    }

    /** "2 at first", "0 at first", "the latest count", "NONE for others". */
    private static void toldAre() {
        SorryToWin x = Due.with(MOST, FEWEST, ONE, "s 2;n 4;n 1;n 3;t 5 1 0 10;l 9;l 60;l 8;w 1;w 0;w 2");
        int[][] want = {{5, 8, 4, 60, 2, 72}, {2, 1, 1, 0, 0, 1}, {2, 1, 2, 0, 0, 1}, {2, 1, 3, 8, 2, 1}};
        for (int sale = 0; sale < 4; sale++) {
            for (int what = 0; what < 6; what++) {
                due.is("told " + sale + " " + what, x.told(sale, what), want[sale][what]);
            }
            for (int what : new int[] {-1, 6, LOW, HIGH}) {
                due.is("told " + sale + " " + what, x.told(sale, what), NONE);
            }
        }
        due.is("SALE 4", x.told(4, 0), NONE);
    }

    /** "0 .. 4 how many of ten see that SIGN, 5 V, 6 W", "no such ones". */
    private static void truthsAre() {
        SorryToWin x = Due.with(MOST, FEWEST);
        for (int t = 0; t < 8; t++) {
            due.is("V 60", x.truth(0, t, 5), 60);
            due.is("W 9", x.truth(0, t, 6), 9);
            for (int sign = 0; sign < 5; sign++) {
                due.is("SIGN " + sign, x.truth(0, t, sign), sign == 4 ? 10 : 0);
            }
        }
        due.is("V 0", x.truth(1, 0, 5), 0);
        due.is("W 1", x.truth(1, 0, 6), 1);
        due.is("none of ten", x.truth(1, 0, 0), 0);
        due.is("ten of ten", x.truth(1, 0, 1), 10);
        for (int what : new int[] {-1, 7, LOW, HIGH}) {
            due.none("what " + what, () -> x.truth(0, 0, what));
        }
        for (int what = 2; what < 5; what++) {
            int sign = what;
            due.none("SIGN " + what + " of two", () -> x.truth(1, 0, sign));
        }
        for (int truth : new int[] {-1, 8, LOW, HIGH}) {
            due.none("TRUTH " + truth + " of eight", () -> x.truth(0, truth, 5));
        }
        due.none("TRUTH 1 of one", () -> x.truth(1, 1, 6));
        due.none("SALE 2 of two", () -> x.truth(2, 0, 5));
    }

    /** "From now on 0 N, 1 the LEAST, 2 the WAY. False: no such ones, out of bounds." */
    private static void changesAre() {
        SorryToWin x = Due.with(ONE, ONE);
        int[] low = {1, 0, 0};
        int[] high = {4, 60, 2};
        for (int what = 0; what < 3; what++) {
            for (int v = -3; v < high[what] + 4; v++) {
                boolean right = v >= low[what] && v <= high[what];
                int before = x.told(0, 2 + what);
                due.is("change " + what + " to " + v, x.change(0, what, v), right);
                due.is("told " + what, x.told(0, 2 + what), right ? v : before);
            }
            due.is("far below", x.change(0, what, LOW), false);
            due.is("far above", x.change(0, what, HIGH), false);
            due.is("it stays at the last right one", x.told(0, 2 + what), high[what]);
        }
        for (int what : new int[] {-1, 3, LOW, HIGH}) {
            due.is("what " + what, x.change(0, what, 1), false);
        }
        due.is("SALE 2", x.change(2, 0, 1), false);
        due.is("the other SALE stays", x.told(1, 2) * 100 + x.told(1, 3) * 10 + x.told(1, 4), 200);
        due.is("from now on: none bids below 60", x.cases(0, 3), 12 * 10000);
        due.is("from now on: 60 too low", x.change(0, 1, 10) ? x.cases(0, 1) : 0, 12 * 10000 * 40);
    }

    // ---- promise 9

    /** "up to four SIGNS (NONE: not that many; the first one at least)", "without a common part". */
    private static void worthsAre() {
        SorryToWin x = Due.with(HINTS, "s 3;t 7 1 0 1 9", "s 2;t 0 9 10 0;t 0 9 0 10", MOST, "s 2;t 30 2 10 0;t 60 9 0 10");
        due.is("one TRUTH has it: its V", x.worth(4, 0, NONE, NONE, NONE, 0), 30);
        due.is("without a common part", x.worth(4, 0, NONE, NONE, NONE, 1), 1);
        due.is("V 0: nothing", x.worth(2, 0, NONE, NONE, NONE, 0), 0);
        due.is("over one", x.worth(2, 0, NONE, NONE, NONE, 1), 1);
        due.is("no TRUTH has both", x.worth(2, 0, 1, NONE, NONE, 0), NONE);
        due.is("nor below", x.worth(2, 0, 1, NONE, NONE, 1), NONE);
        due.is("nor the second and the fourth", x.worth(2, 0, 0, 0, 1, 0), NONE);
        due.is("never seen", x.worth(1, 0, NONE, NONE, NONE, 0), NONE);
        due.is("the most of all", x.worth(3, 4, 4, 4, 4, 0), 60);
        due.is("the most of all, below", x.worth(3, 4, 4, 4, 4, 1), 1);
        int[] signs = {NONE, 0, 1};
        for (int b : signs) {
            for (int c : signs) {
                for (int d : signs) {
                    due.is("first one NONE", x.worth(0, NONE, b, c, d, 0), NONE);
                    due.is("which is left out does not matter", x.worth(0, 1, b, c, d, 0), x.worth(0, 1, d, b, c, 0));
                    due.is("nor below", x.worth(0, 1, b, c, d, 1), x.worth(0, 1, d, b, c, 1));
                }
            }
        }
        for (int no : new int[] {-2, 2, 5, LOW, HIGH}) {
            due.is("first " + no, x.worth(0, no, NONE, NONE, NONE, 0), NONE);
            due.is("second " + no, x.worth(0, 0, no, NONE, NONE, 0), NONE);
            due.is("third " + no, x.worth(0, 0, NONE, no, NONE, 0), NONE);
            due.is("fourth " + no, x.worth(0, 0, NONE, NONE, no, 0), NONE);
            due.is("what " + no, x.worth(0, 0, NONE, NONE, NONE, no), NONE);
        }
        due.is("SIGN 2 of three", x.worth(1, 2, NONE, NONE, NONE, 0), 7);
        due.is("SIGN 3 of three", x.worth(1, 3, NONE, NONE, NONE, 0), NONE);
        due.is("four though one comes", x.change(0, 0, 1) ? x.worth(0, 0, 1, 0, 1, 0) : 0, 15);
    }

    // ---- promises 10 to 13: TABLES and SEATS

    /** "TABLES (10 at most): a bid (0 .. 60; 0 at first) for each SIGN (0 .. 4)". */
    private static void tablesAre() {
        SorryToWin x = Due.with(MOST);
        for (int n = 0; n < 10; n++) {
            due.is("not made yet", x.bid(n, 0, 1), false);
            due.is("nor seated", x.seat(0, 0, n), false);
            due.is("its number", x.table(), n);
            due.is("how many", x.count(1), n + 1);
        }
        due.is("there are ten", x.table(), NONE);
        due.is("still ten", x.count(1), 10);
        x.seat(0, 0, 9);
        for (int sign = 0; sign < 5; sign++) {
            due.is("0 at first", x.bids(0, 0, sign), 0);
            for (int v = -2; v < 63; v += v < 2 || v > 56 ? 1 : 5) {
                boolean right = v >= 0 && v <= 60;
                due.is("bid " + v, x.bid(9, sign, v), right);
                due.is("is it", x.bids(0, 0, sign), Math.max(0, Math.min(60, v)));
            }
        }
        for (int no : new int[] {-1, LOW, HIGH}) {
            due.is("TABLE " + no, x.bid(no, 0, 1), false);
            due.is("SIGN " + no, x.bid(9, no, 1), false);
            due.is("bid " + no, x.bid(9, 0, no), false);
        }
        due.is("TABLE 10", x.bid(10, 0, 1), false);
        due.is("SIGN 5", x.bid(9, 5, 1), false);
        due.is("refused: stays", x.bids(0, 0, 0), 60);
        due.is("a TABLE has SIGNS that no SALE has", Due.with(ONE).table() == 0 && x.bid(0, 4, 7), true);
    }

    /** "SEATS of a SALE (0 .. 3, those below N count)", "a TABLE, PLAIN (-1), WISE (-2). False: no such ones." */
    private static void seatsAre() {
        SorryToWin x = Due.with(HINTS, HINTS);
        for (int who : new int[] {-3, 0, 1, LOW, HIGH}) {
            due.is("no TABLE " + who, x.seat(0, 0, who), false);
        }
        due.is("refused: still PLAIN", x.bids(0, 0, 1), 18);
        x.table();
        x.bid(0, 1, 7);
        for (int who = -2; who < 1; who++) {
            for (int seat = 0; seat < 4; seat++) {
                due.is("seat " + seat + " " + who, x.seat(0, seat, who), true);
            }
        }
        for (int seat : new int[] {-1, 4, LOW, HIGH}) {
            due.is("SEAT " + seat, x.seat(0, seat, -1), false);
        }
        due.is("TABLE 1 of one", x.seat(0, 0, 1), false);
        due.is("SALE 2 of two", x.seat(2, 0, -1), false);
        for (int n = 1; n <= 4; n++) {
            x.change(0, 0, n);
            for (int seat = 0; seat < 4; seat++) {
                due.is("N " + n + ": those below N count", x.bids(0, seat, 1), seat < n ? 7 : NONE);
            }
        }
        due.is("the other SALE's stay", x.bids(1, 0, 1), 18);
        due.is("one TABLE on many SEATS", x.bid(0, 1, 9) ? x.bids(0, 0, 1) + x.bids(0, 3, 1) : 0, 18);
    }

    /** "What a SEAT (below N) bids by a SIGN (below the LEAST, too)", "0, if no TRUTH has a weight", "N 1: as PLAIN". */
    private static void bidsAre() {
        SorryToWin x = Due.with(HINTS, "s 3;t 7 1 0 1 9", "s 2;t 60 9 10 0;t 0 1 9 1", MOST);
        for (int who = -2; who < 0; who++) {
            x.seat(1, 0, who);
            due.is("never seen: 0", x.bids(1, 0, 0), 0);
            due.is("seen", x.bids(1, 0, 1), 7);
            x.seat(3, 3, who);
            due.is("the most of all", x.bids(3, 3, 4), 60);
            due.is("never seen, LEAST 60", x.bids(3, 3, 3), 0);
        }
        due.is("cut, not rounded: 5400 to 99", x.bids(2, 0, 0), 54);
        x.seat(2, 0, -2);
        due.is("twice: 54000 to 981", x.bids(2, 0, 0), 55);
        due.is("alone: as PLAIN", x.change(2, 0, 1) ? x.bids(2, 0, 0) : 0, 54);
        due.is("of two again", x.change(2, 0, 2) ? x.bids(2, 0, 0) : 0, 55);
        due.is("below the LEAST, too", x.change(0, 1, 60) ? x.bids(0, 0, 0) : 0, 12);
        for (int no : new int[] {-1, 2, 5, LOW, HIGH}) {
            due.is("SIGN " + no, x.bids(0, 0, no), NONE);
            due.is("SEAT " + no, x.bids(0, no, 0), NONE);
        }
        due.is("SALE 4", x.bids(4, 0, 0), NONE);
    }

    // ---- CASES: promises 14 to 17

    /** One TRUTH of V 10 and W 1, all see SIGN 0; each SEAT has a TABLE of its own with that bid for SIGN 0. */
    private static SorryToWin table(int way, int least, int... bid) {
        SorryToWin x = Due.with(ONE + ";n " + bid.length + ";l " + least + ";w " + way);
        for (int seat = 0; seat < bid.length; seat++) {
            x.table();
            x.bid(seat, 0, bid[seat]);
            x.seat(0, seat, seat);
        }
        return x;
    }

    /** TAKES, then the GAINS, as they are for one case of each. */
    private static void comesTo(int way, int least, int[] bid, long takes, long... gains) {
        SorryToWin x = table(way, least, bid);
        long all = 12;
        for (int n = 0; n < bid.length; n++) {
            all *= 10;
        }
        StringBuilder name = new StringBuilder("way " + way + ", LEAST " + least + ", bids");
        boolean none = true;
        for (int b : bid) {
            name.append(' ').append(b);
            none &= b < least;
        }
        due.is(name + ": all", x.cases(0, 0), all);
        due.is(name + ": takes", x.cases(0, 1), takes * all);
        due.is(name + ": unsold", x.cases(0, 3), none ? all : 0);
        for (int seat = 0; seat < gains.length; seat++) {
            due.is(name + ": gain " + seat, x.gain(0, seat), gains[seat] * all / 12);
        }
    }

    /** "A bid below the LEAST is none.", "the LEAST, if there is none", "all who bid pay". GAINS are twelfths. */
    private static void leastAndWays() {
        for (int way = 0; way < 3; way++) {
            comesTo(way, 0, new int[] {0}, 0, 120);
            comesTo(way, 5, new int[] {4}, 0, 0);
            comesTo(way, 5, new int[] {5}, 5, 60);
            comesTo(way, 60, new int[] {59}, 0, 0);
            comesTo(way, 60, new int[] {60}, 60, -600);
            comesTo(way, 5, new int[] {4, 4, 0, 3}, 0, 0, 0, 0, 0);
            comesTo(way, 0, new int[] {0, 0}, 0, 60, 60);
            comesTo(way, 0, new int[] {0, 1}, way == 1 ? 0 : 1, 0, way == 1 ? 120 : 108);
        }
        comesTo(0, 5, new int[] {9, 4}, 9, 12, 0);
        comesTo(1, 5, new int[] {9, 4}, 5, 60, 0);
        comesTo(2, 5, new int[] {9, 4}, 9, 12, 0);
        comesTo(0, 5, new int[] {9, 5}, 9, 12, 0);
        comesTo(1, 5, new int[] {9, 5}, 5, 60, 0);
        comesTo(2, 5, new int[] {9, 5}, 14, 12, -60);
        comesTo(1, 5, new int[] {9, 6}, 6, 48, 0);
        comesTo(1, 5, new int[] {6, 9, 8, 4}, 8, 0, 24, 0, 0);
        comesTo(2, 5, new int[] {6, 9, 8, 4}, 23, -72, 12, -96, 0);
        comesTo(1, 60, new int[] {60, 59}, 60, -600, 0);
    }

    /** "of m alike each in one of m cases", "as alike: its own". GAINS are twelfths. */
    private static void alikes() {
        for (int way = 0; way < 2; way++) {
            comesTo(way, 0, new int[] {7, 7}, 7, 18, 18);
            comesTo(way, 7, new int[] {7, 7, 7}, 7, 12, 12, 12);
            comesTo(way, 7, new int[] {7, 7, 7, 7}, 7, 9, 9, 9, 9);
            comesTo(way, 0, new int[] {7, 6, 7}, 7, 18, 0, 18);
            comesTo(way, 0, new int[] {0, 7, 6, 7}, 7, 0, 18, 0, 18);
            comesTo(way, 0, new int[] {60, 60, 60, 60}, 60, -150, -150, -150, -150);
        }
        comesTo(2, 0, new int[] {7, 7}, 14, 60 - 84, 60 - 84);
        comesTo(2, 7, new int[] {7, 7, 7}, 21, 40 - 84, 40 - 84, 40 - 84);
        comesTo(2, 7, new int[] {7, 7, 7, 7}, 28, 30 - 84, 30 - 84, 30 - 84, 30 - 84);
        comesTo(2, 0, new int[] {7, 6, 7}, 20, 60 - 84, -72, 60 - 84);
    }

    /** "twelve for each weight of a TRUTH with the SIGNS of all N", SORRY: "pays more than V". */
    private static void casesAre() {
        SorryToWin x = Due.with(MOST, FEWEST);
        long all = 12;
        for (int n = 1; n <= 4; n++) {
            all *= 10;
            x.change(0, 0, n);
            x.change(1, 0, n);
            due.is("the most of all, N " + n, x.cases(0, 0), 72 * all);
            due.is("takes 60 of each, way 2", x.cases(0, 1), 72 * all * 60 * n);
            due.is("the least of all, N " + n, x.cases(1, 0), all);
            due.is("takes nothing", x.cases(1, 1), 0);
            due.is("sold for nothing", x.cases(1, 3), 0);
        }
        for (int what : new int[] {-1, 4, LOW, HIGH}) {
            due.is("what " + what, x.cases(0, what), NONE);
        }
        int[][] wayAndBids = {{0, 9, 0}, {0, 10, 0}, {0, 11, 0}, {1, 60, 10}, {1, 60, 11}, {1, 11, 11}, {1, 10, 10},
            {2, 10, 9}, {2, 11, 0}};
        boolean[] sorry = {false, false, true, false, true, true, false, false, true};
        for (int i = 0; i < sorry.length; i++) {
            int[] b = wayAndBids[i];
            due.is("sorry, way " + b[0] + ": " + b[1] + " " + b[2], table(b[0], 0, b[1], b[2]).cases(0, 2), sorry[i] ? 1200 : 0);
        }
        due.is("sorry by the LEAST", table(1, 11, 60, 10).cases(0, 2), 1200);
        due.is("not by a LEAST of V", table(1, 10, 60, 9).cases(0, 2), 0);
        due.is("none wins, none is sorry", table(0, 12, 11, 11).cases(0, 2), 0);
    }

    /** "HIDDEN: no such ones." */
    private static void gainsAre() {
        SorryToWin x = Due.with(ONE);
        for (int n = 1; n <= 4; n++) {
            x.change(0, 0, n);
            for (int seat = 0; seat < 4; seat++) {
                due.is("N " + n + ": gain of SEAT " + seat, x.gain(0, seat), seat < n ? 0 : HIDDEN);
            }
        }
        for (int seat : new int[] {-1, 4, LOW, HIGH}) {
            due.is("SEAT " + seat, x.gain(0, seat), HIDDEN);
        }
        due.is("SALE 1", x.gain(1, 0), HIDDEN);
        x = Due.with(MOST);
        due.is("the most of all: a fourth of 60 less 60", x.gain(0, 3), 72L * 120000 * (15 - 60));
        x.change(0, 1, 0);
        x.table();
        x.seat(0, 0, 0);
        x.change(0, 0, 1);
        due.is("the most that is gained by each case", x.gain(0, 0), 72L * 120 * 60);
    }

    /** "NONE: it never wins with that SIGN, no such ones." "HIDDEN: it never wins so", "below 0: more". */
    private static void wonsAre() {
        SorryToWin x = Due.with(HINTS + ";n 1;l 13", "s 3;t 7 1 0 1 9", MOST, FEWEST);
        due.is("below the LEAST it never wins", x.won(0, 0, 0, 0), NONE);
        due.is("nor below", x.won(0, 0, 0, 1), NONE);
        due.is("nor less", x.less(0, 0, 0, 0), HIDDEN);
        due.is("nor less, below", x.less(0, 0, 0, 1), HIDDEN);
        due.is("alone it thinks right", x.won(0, 0, 1, 0), 18);
        due.is("less by nothing", x.less(0, 0, 1, 0), 0);
        due.is("over one", x.less(0, 0, 1, 1), 1);
        x.change(0, 1, 12);
        due.is("at the LEAST it wins", x.won(0, 0, 0, 0), 12);
        due.is("never seen", x.won(1, 0, 0, 0), NONE);
        due.is("never seen, less", x.less(1, 0, 0, 0), HIDDEN);
        due.is("the most of all", x.won(2, 3, 4, 0) * 100 + x.won(2, 3, 4, 1), 6001);
        due.is("V 0", x.won(3, 0, 1, 0), 0);
        due.is("V 0, below", x.won(3, 0, 1, 1), 1);
        for (int what : new int[] {-1, 2, LOW, HIGH}) {
            due.is("won what " + what, x.won(0, 0, 1, what), NONE);
            due.is("less what " + what, x.less(0, 0, 1, what), HIDDEN);
        }
        for (int no : new int[] {-1, 2, 5, LOW, HIGH}) {
            due.is("won SIGN " + no, x.won(0, 0, no, 0), NONE);
            due.is("less SIGN " + no, x.less(0, 0, no, 0), HIDDEN);
            due.is("won SEAT " + no, x.won(0, no, 1, 0), NONE);
            due.is("less SEAT " + no, x.less(0, no, 1, 0), HIDDEN);
        }
        due.is("SEAT 1 of one", x.won(0, 1, 1, 0), NONE);
        due.is("SEAT 1 of one, less", x.less(0, 1, 1, 0), HIDDEN);
    }

    // ---- BEST, JUDGED, FIND: promises 18 to 20

    /** "the bid 0 .. 60 with which its GAIN .. is most, all else as it is; of several the lowest". */
    private static void bestsAre() {
        // Way, LEAST, the other's bid, then the BEST against it.
        int[][] known = {{0, 0, 0, 1}, {0, 0, 7, 8}, {0, 0, 8, 8}, {0, 0, 9, 9}, {0, 0, 10, 0}, {0, 0, 60, 0}, {0, 9, 8, 9},
            {0, 10, 0, 0}, {0, 11, 0, 0}, {0, 60, 60, 0}, {0, 8, 8, 8}, {1, 0, 0, 1}, {1, 0, 9, 10}, {1, 0, 10, 0}, {1, 0, 60, 0},
            {1, 9, 0, 9}, {1, 10, 0, 0}, {1, 60, 0, 0}, {2, 0, 0, 1}, {2, 0, 8, 9}, {2, 0, 9, 0}, {2, 5, 4, 5}, {2, 10, 0, 0}};
        for (int[] k : known) {
            SorryToWin x = table(k[0], k[1], 60, k[2]);
            due.is("way " + k[0] + ", LEAST " + k[1] + ", against " + k[2], x.best(0, 0, 0), k[3]);
            due.is("a SIGN never seen: the lowest", x.best(0, 0, 1), 0);
            x.bid(0, 0, 33);
            due.is("its own bid does not matter", x.best(0, 0, 0), k[3]);
        }
        for (int way = 0; way < 3; way++) {
            due.is("alone: 0", table(way, 0, 60).best(0, 0, 0), 0);
            due.is("alone: the LEAST", table(way, 9, 60).best(0, 0, 0), 9);
            due.is("alone: nothing to gain by a LEAST of V", table(way, 10, 60).best(0, 0, 0), 0);
        }
        SorryToWin x = Due.with("s 2;t 60 1 10 0;w 1");
        x.table();
        x.bid(0, 0, 59);
        x.seat(0, 1, 0);
        due.is("60 may be it", x.best(0, 0, 0), 60);
        x.bid(0, 0, 60);
        due.is("61 is no bid", x.best(0, 0, 0), 0);
        for (int no : new int[] {-1, 2, 5, LOW, HIGH}) {
            due.is("SIGN " + no, x.best(0, 0, no), NONE);
            due.is("SEAT " + no, x.best(0, no, 0), NONE);
        }
        due.is("SALE 1", x.best(1, 0, 0), NONE);
        due.is("SEAT 1 of one", x.change(0, 0, 1) ? x.best(0, 1, 0) : 0, NONE);
    }

    /** "the first SEAT, then SIGN, whose bid has less than its BEST (10 times the SEAT and the SIGN)". */
    private static void judged() {
        SorryToWin x = Due.with("s 5;t 10 1 2 2 2 2 2;n 4");
        x.table();
        x.table();
        for (int sign = 0; sign < 5; sign++) {
            x.bid(0, sign, 10);
            x.bid(1, sign, 10);
        }
        for (int seat = 0; seat < 4; seat++) {
            x.seat(0, seat, 0);
        }
        due.is("who bids V has as much as who bids 0: at rest", x.judge(0), NONE);
        for (int seat = 3; seat >= 0; seat--) {
            x.seat(0, seat, 1);
            for (int sign = 4; sign >= 0; sign--) {
                x.bid(1, sign, 11);
                due.is("the first is SEAT " + seat + " and SIGN " + sign, x.judge(0), 10 * seat + sign);
                x.bid(1, sign, 10);
            }
            due.is("at rest again", x.judge(0), NONE);
            x.seat(0, seat, 0);
        }
        x.bid(1, 4, 11);
        x.seat(0, 3, 1);
        due.is("the last of all", x.judge(0), 34);
        due.is("a SEAT that does not count", x.change(0, 0, 3) ? x.judge(0) : 0, NONE);
        x.bid(1, 4, 10);
        x.bid(1, 2, 11);
        x.bid(1, 3, 11);
        x.seat(0, 2, 1);
        x.seat(0, 1, 1);
        due.is("the first SEAT, then the first SIGN", x.judge(0), 12);
        x.seat(0, 1, 0);
        x.bid(1, 2, 9);
        x.bid(1, 3, 9);
        due.is("below V among those of V: as much", x.judge(0), NONE);
        SorryToWin never = Due.with(ONE + ";l 5");
        never.table();
        never.bid(0, 0, 10);
        never.bid(0, 1, 60);
        never.seat(0, 0, 0);
        never.seat(0, 1, 0);
        due.is("a SIGN never seen: any bid rests", never.judge(0), NONE);
    }

    /** How FIND goes by BEST alone, TURN by TURN. */
    private static int turns(SorryToWin x, int signs, List<Integer> row) {
        List<List<Integer>> before = new ArrayList<>();
        for (int seat = 0; seat < 4; seat++) {
            x.seat(0, seat, 0);
        }
        for (int turn = 1; turn <= 20; turn++) {
            before.add(new ArrayList<>(row));
            for (int sign = 0; sign < signs; sign++) {
                x.bid(0, sign, row.get(sign));
            }
            for (int sign = 0; sign < signs; sign++) {
                row.set(sign, x.best(0, 0, sign));
            }
            if (row.equals(before.get(turn - 1))) {
                return 0;
            }
            if (before.contains(row)) {
                return 1;
            }
        }
        return 2;
    }

    /** "in each TURN at most (20)", "RESTS (0), if nothing changes; goes ROUND (1), if a row of before comes again". */
    private static void finds() {
        // Of V 20 and V 21 that all bid: first 0, then one more in each TURN, to 18 and 19.
        String[] texts = {"s 2;t 20 1 5 5", "s 2;t 21 1 5 5", "s 2;t 1 1 5 5", "s 3;t 19 2 0 9 1;n 3", "s 3;t 18 5 3 2 5;t 23 3 4 3 3",
            "s 3;t 29 7 2 2 6;n 3;w 2;l 11", "s 3;t 23 8 8 1 1;t 10 6 6 0 4;n 3;w 2", "s 3;t 0 5 10 0 0;w 1", "s 3;t 1 4 7 0 3;n 3;w 1",
            "s 5;t 60 9 2 2 2 2 2;n 4;l 60"};
        int[] ends = {0, 2, 0, 0, 2, 1, 2, 0, 1, 0};
        for (int i = 0; i < texts.length; i++) {
            SorryToWin x = Due.with(texts[i]);
            x.table();
            int signs = x.told(0, 0);
            List<Integer> row = new ArrayList<>();
            for (int sign = 0; sign < signs; sign++) {
                row.add(x.bids(0, 0, sign));
            }
            due.is("turns of " + texts[i], turns(x, signs, row), ends[i]);
            due.is("find of " + texts[i], x.find(0, 0), ends[i]);
            for (int sign = 0; sign < signs; sign++) {
                due.is("the row that came last", x.bids(0, 0, sign), row.get(sign));
            }
        }
        SorryToWin x = Due.with("s 2;t 20 1 5 5", "s 2;t 21 1 5 5");
        for (int n = 0; n < 10; n++) {
            x.table();
        }
        x.bid(9, 1, 44);
        x.bid(9, 2, 45);
        x.seat(0, 0, 9);
        for (int no : new int[] {-1, 10, LOW, HIGH}) {
            due.is("TABLE " + no, x.find(0, no), NONE);
        }
        due.is("SALE 2", x.find(2, 9), NONE);
        due.is("refused: the TABLE stays", x.bids(0, 0, 1), 44);
        due.is("rests in the twentieth TURN", x.find(0, 9), 0);
        due.is("at 18", x.bids(0, 0, 1), 18);
        due.is("is spent before it rests", x.find(1, 9), 2);
        due.is("at 19", x.bids(0, 0, 1), 19);
        Due.feed(x, "s 3;t 20 1 5 5 0");
        x.sale();
        x.seat(2, 0, 9);
        due.is("for the SIGNS of the SALE alone", x.bids(2, 0, 2), 45);
    }

    // ---- the seller: promises 21 to 23, 26

    /** "so many BIDDERS (1 .. 4)", "NONE: no such ones". */
    private static void bys() {
        SorryToWin x = Due.with(MOST, "s 2;t 60 9 10 0;t 0 1 9 1;n 1", FEWEST);
        for (int wise = 0; wise < 2; wise++) {
            boolean w = wise == 1;
            for (int many : new int[] {-1, 0, 5, LOW, HIGH}) {
                due.is("by " + many, x.by(0, many, w, 0), NONE);
            }
            for (int what : new int[] {-1, 2, LOW, HIGH}) {
                due.is("what " + what, x.by(0, 1, w, what), NONE);
            }
            for (int many = 1; many <= 4; many++) {
                due.is("all pay 60", x.by(0, many, w, 0), 60 * many);
                due.is("over one", x.by(0, many, w, 1), 1);
                due.is("nothing", x.by(2, many, w, 0), 0);
                due.is("nothing over one", x.by(2, many, w, 1), 1);
            }
            due.is("SALE 3", x.by(3, 1, w, 0), NONE);
        }
        // HELD of SIGN 0 is 54, of it twice 55; of SIGN 1, seen in one of 100 cases, 0.
        due.is("PLAIN alone: 54 times 99", x.by(1, 1, false, 0), 27 * 99);
        due.is("by 100, without a common part", x.by(1, 1, false, 1), 50);
        due.is("WISE alone: as PLAIN", x.by(1, 1, true, 0), 27 * 99);
        due.is("two WISE, though N is 1", x.by(1, 2, true, 0), 11 * 999);
        due.is("by 1000, without a common part", x.by(1, 2, true, 1), 200);
        x.change(1, 1, 55);
        due.is("PLAIN ones bid below the LEAST", x.by(1, 2, false, 0), 0);
        due.is("WISE ones do not", x.by(1, 2, true, 0), 11 * 999);
    }

    /** "the LEAST (0 .. 60) by which TAKES is most", "of several the lowest". */
    private static void bars() {
        SorryToWin x = Due.with("s 2;t 60 1 10 0;n 1;w 1", "s 2;t 0 1 10 0;n 1;w 1", "s 2;t 6 1 10 0;t 12 1 0 10;n 1;w 1",
            "s 2;t 60 9 10 0;t 0 1 9 1;w 1", MOST, "s 2;t 12 1 10 0;t 25 1 0 10;n 1;w 1", "s 2;t 12 1 10 0;t 23 1 0 10;n 1;w 1");
        due.is("25 half the time is a little more than 12 always", x.bar(5, false), 25);
        due.is("23 half the time is a little less", x.bar(6, false), 12);
        for (int wise = 0; wise < 2; wise++) {
            due.is("60 may be it", x.bar(0, wise == 1), 60);
            due.is("0 may be it", x.bar(1, wise == 1), 0);
            due.is("6 always is as much as 12 half the time: the lowest", x.bar(2, wise == 1), 6);
            due.is("way 2", x.bar(4, wise == 1), 0);
            for (int sale = 0; sale < 3; sale++) {
                x.change(sale, 1, 60);
                due.is("the LEAST of the SALE does not matter", x.bar(sale, wise == 1), sale == 0 ? 60 : sale == 1 ? 0 : 6);
                due.is("and stays", x.told(sale, 3), 60);
                x.change(sale, 1, 0);
            }
        }
        due.is("PLAIN", x.bar(3, false), 54);
        due.is("WISE", x.bar(3, true), 55);
        due.is("SEATS do not matter", x.seat(3, 0, -2) && x.seat(3, 1, -2) ? x.bar(3, false) : 0, 54);
        due.is("WISE alone: as PLAIN", x.change(3, 0, 1) ? x.bar(3, true) : 0, 54);
        due.is("way 0: any up to 54, the lowest", x.change(3, 2, 0) ? x.bar(3, false) : -1, 0);
        due.is("SALE 7", x.bar(7, false), NONE);
    }

    /** "HELD of their SIGN and his", "TABLES as ever", "weights with his as well". */
    private static void tellings() {
        SorryToWin x = Due.with(ONE + ";n 1", FEWEST, MOST, "s 2;t 60 1 10 0;t 0 9 1 9");
        due.is("one: ten times ten", x.telling(0), 12 * 100 * 10);
        due.is("nothing", x.telling(1), 0);
        due.is("the most of all", x.telling(2), 72L * 12 * 100000 * 60 * 4);
        x.seat(0, 0, -2);
        due.is("alone and WISE: as PLAIN", x.telling(0), 12 * 100 * 10);
        x.table();
        x.bid(0, 0, 3);
        x.seat(0, 0, 0);
        due.is("a TABLE as ever", x.telling(0), 12 * 100 * 3);
        x.change(0, 1, 4);
        due.is("below the LEAST", x.telling(0), 0);
        // HELD of 0 and his 0 is 55, of 0 twice and his 0 it is 59; with any 1 it is 0. His 0: both see 0 by 1009, one by 81.
        due.is("PLAIN: theirs and his", x.telling(3), 12 * (1009 + 2 * 81) * 55);
        x.seat(3, 0, -2);
        due.is("WISE: theirs twice and his", x.telling(3), 12 * ((1009 + 81) * 59 + 81 * 55));
        due.is("SALE 4", x.telling(4), NONE);
    }

    /** "who knows the TRUTH sits on SEAT 0", "(likewise)", "CASES with the SIGNS of the others alone". */
    private static void nears() {
        SorryToWin x = Due.with(ONE + ";n 1", MOST, "s 2;t 60 9 10 0;t 0 1 9 1;w 1");
        due.is("alone: 0", x.near(0, 0), 0);
        due.is("alone: V by twelve cases", x.nearGain(0), 120);
        x.change(0, 1, 9);
        due.is("alone: the LEAST", x.near(0, 0), 9);
        due.is("alone: what is left", x.nearGain(0), 12);
        x.change(0, 1, 10);
        due.is("a LEAST of V: nothing to gain, the lowest", x.near(0, 0), 0);
        due.is("gains nothing", x.nearGain(0), 0);
        x.change(0, 1, 60);
        due.is("a LEAST above V", x.near(0, 0), 0);
        due.is("it need not bid", x.nearGain(0), 0);
        for (int truth = 0; truth < 8; truth++) {
            due.is("LEAST of V, way 2", x.near(1, truth), 0);
        }
        for (int truth : new int[] {-1, 8, LOW, HIGH}) {
            due.is("TRUTH " + truth, x.near(1, truth), NONE);
        }
        due.is("TRUTH 1 of one", x.near(0, 1), NONE);
        due.is("SALE 3", x.near(3, 0), NONE);
        due.is("SALE 3, gain", x.nearGain(3), HIDDEN);
        x.table();
        x.bid(0, 0, 59);
        x.seat(2, 1, 0);
        due.is("60 may be it", x.near(2, 0), 60);
        due.is("V 0: none is, the lowest", x.near(2, 1), 0);
        due.is("one by 9 times 10", x.nearGain(2), 12 * 90);
        x.seat(2, 0, 0);
        due.is("SEAT 0 does not matter", x.nearGain(2), 12 * 90);
    }

    /** "(N 2 at least)", "HELD of both SIGNS; SEAT 1 bids not". */
    private static void asOnes() {
        SorryToWin x = Due.with("s 2;t 10 1 10 0;n 2", MOST, "s 2;t 60 9 10 0;t 0 1 9 1;n 1");
        due.is("two", x.asOne(0), 1200 * 10);
        x.table();
        x.bid(0, 0, 60);
        x.seat(0, 0, 0);
        x.seat(0, 1, 0);
        due.is("how they sit does not matter", x.asOne(0), 1200 * 10);
        x.change(0, 1, 11);
        due.is("below the LEAST", x.asOne(0), 0);
        x.change(0, 1, 10);
        due.is("at the LEAST", x.asOne(0), 1200 * 10);
        due.is("three of four pay", x.asOne(1), 72L * 120000 * 60 * 3);
        due.is("N 1", x.asOne(2), NONE);
        due.is("N 2: HELD of both is 55 by 0 and 0", x.change(2, 0, 2) ? x.asOne(2) : 0, 12 * (900 + 81) * 55);
        x.change(0, 0, 3);
        due.is("SEAT 2 bids 60 by TABLE", x.seat(0, 2, 0) ? x.asOne(0) : 0, 12000 * 60);
        due.is("way 1: it pays the one's", x.change(0, 2, 1) ? x.asOne(0) : 0, 12000 * 10);
        due.is("way 1: none other bids, the LEAST", x.change(0, 1, 20) ? x.asOne(0) : 0, 12000 * 20);
        due.is("SALE 3", x.asOne(3), NONE);
    }

    // ---- OPEN and LEARN: promises 27 to 32

    /** "A SIGN (0 .. 4; 0 at first) is laid for a SEAT (0 .. 3). False: no such ones." */
    private static void lays() {
        SorryToWin x = new SorryToWin();
        for (int seat = -2; seat < 7; seat++) {
            for (int sign = -2; sign < 8; sign++) {
                boolean right = seat >= 0 && seat < 4 && sign >= 0 && sign < 5;
                due.is("lay " + seat + " " + sign + ", without a SALE, too", x.lay(seat, sign), right);
            }
        }
        for (int no : new int[] {LOW, HIGH}) {
            due.is("SEAT " + no, x.lay(no, 0), false);
            due.is("SIGN " + no, x.lay(0, no), false);
        }
        Due.feed(x, "s 5;t 10 1 10 0 0 0 0;t 50 1 0 0 0 0 10;n 4");
        x.sale();
        due.is("refused: 4 stays laid for all", x.open(0, 1), 50);
        x = Due.with("s 5;t 10 1 10 0 0 0 0;t 50 1 0 0 0 0 10;n 4");
        due.is("0 at first", x.open(0, 1), 10);
    }

    /** "of several the lower SEAT", "no lower than the LEAST and than who left before", "the LEAST with N 1". */
    private static void opens() {
        SorryToWin x = Due.with("s 3;t 10 1 10 0 0;t 30 1 0 10 0;t 50 1 0 0 10;n 4", FEWEST);
        due.is("all alike: the last wins", x.open(0, 0), 3);
        for (int i = 0; i < 3; i++) {
            due.is("the lower SEAT leaves first", x.leaves(0, i, 0), i);
            due.is("at what it held", x.leaves(0, i, 1), 10);
            x.change(0, 1, 60);
            due.is("no lower than the LEAST", x.leaves(0, i, 1), 60);
            x.change(0, 1, 0);
        }
        due.is("a fourth does not leave", x.leaves(0, 3, 0), NONE);
        x.lay(1, 2);
        x.lay(2, 1);
        x.lay(3, 1);
        int[] who = {0, 1, 2};
        for (int i = 0; i < 3; i++) {
            due.is("SIGNS that none sees together are worth 0: the lower SEAT", x.leaves(0, i, 0), who[i]);
            due.is("no lower than who left before", x.leaves(0, i, 1), 10);
        }
        due.is("pays at what the last left", x.open(0, 1), 10);
        for (int n = 1; n <= 4; n++) {
            x.change(0, 0, n);
            due.is("N " + n + ": how many leave", x.leaves(0, n - 1, 0), NONE);
            due.is("N " + n + ": the one before does", x.leaves(0, n - 2, 0) != NONE, n > 1);
        }
        x.change(0, 0, 1);
        x.change(0, 1, 37);
        due.is("N 1: who is there wins", x.open(0, 0), 0);
        due.is("N 1: the LEAST", x.open(0, 1), 37);
        for (int no : new int[] {-1, 2, LOW, HIGH}) {
            due.is("open what " + no, x.open(0, no), NONE);
            due.is("leaves what " + no, x.change(0, 0, 2) ? x.leaves(0, 0, no) : 0, NONE);
            due.is("leaves i " + no, x.leaves(0, no, 0), NONE);
        }
        notItsSigns(x);
    }

    /** "a SIGN laid that the SALE has not", "SIGNS laid by hand for the N SEATS". */
    private static void notItsSigns(SorryToWin x) {
        x.change(0, 0, 4);
        for (int seat = 0; seat < 4; seat++) {
            int was = seat == 0 ? 0 : seat == 1 ? 2 : 1;
            for (int sign = 3; sign < 5; sign++) {
                x.lay(seat, sign);
                due.is("SIGN " + sign + " for SEAT " + seat, x.open(0, 0), NONE);
                due.is("its price", x.open(0, 1), NONE);
                due.is("who left", x.leaves(0, 0, 0), NONE);
            }
            x.lay(seat, 2);
            due.is("SIGN 2 it has", x.open(0, 0) != NONE, true);
            x.lay(seat, was);
        }
        due.is("SALE 1 has two SIGNS, SEAT 0 alone counts", x.open(1, 0), 0);
        due.is("SEAT 1 has SIGN 2", x.change(1, 0, 2) ? x.open(1, 0) : 0, NONE);
        x.lay(3, 4);
        due.is("SEAT 3 does not count", x.change(0, 0, 3) ? x.open(0, 0) : 0, 2);
        due.is("SEAT 3 counts", x.change(0, 0, 4) ? x.open(0, 0) : 0, NONE);
    }

    /** "so many rounds (1 .. 400)", "if V is the LEAST or more", "if it paid more than V", "if V was above". */
    private static void learns() {
        SorryToWin x = table(0, 0, 10, 10);
        for (int rounds : new int[] {0, -1, 401, LOW, HIGH}) {
            due.is("rounds " + rounds, x.learn(0, 1, rounds), NONE);
            due.none("refused: none is the latest", () -> x.learned(0, 0));
        }
        due.is("one round", x.learn(0, 1, 1), 0);
        due.is("got one bid", x.got(), 10);
        due.is("400 rounds", x.learn(0, 1, 400), 0);
        due.is("got 400 bids", x.got(), 4000);
        due.is("refused", x.learn(0, 1, 401), NONE);
        due.is("refused: the latest stays", x.got(), 4000);
        due.is("paid V: neither becomes another", x.learned(0, 0) * 100 + x.learned(1, 0), 1010);
        // Way, LEAST, the bids, then sorry, got and the bids in the end, after one round.
        int[][] known = {{0, 0, 11, 3, 1, 11, 10, 3}, {0, 0, 10, 3, 0, 10, 10, 3}, {0, 0, 9, 3, 0, 9, 9, 4}, {0, 4, 9, 3, 0, 9, 9, 4},
            {1, 0, 60, 10, 0, 10, 60, 10}, {1, 0, 60, 11, 1, 11, 59, 11}, {1, 0, 60, 9, 0, 9, 60, 10}, {1, 10, 60, 9, 0, 10, 60, 9},
            {1, 11, 60, 9, 1, 11, 59, 9}, {1, 9, 60, 8, 0, 9, 60, 9}, {2, 0, 9, 3, 0, 12, 9, 4}, {2, 4, 9, 3, 0, 9, 9, 4},
            {2, 0, 60, 59, 1, 119, 59, 59}, {0, 10, 9, 0, 0, 0, 10, 1}, {0, 11, 9, 10, 0, 0, 9, 10}, {0, 60, 59, 59, 0, 0, 59, 59}};
        for (int[] k : known) {
            SorryToWin y = table(k[0], k[1], k[2], k[3]);
            String name = "way " + k[0] + ", LEAST " + k[1] + ", bids " + k[2] + " " + k[3];
            due.is(name + ": sorry", y.learn(0, 5, 1), k[4]);
            due.is(name + ": got", y.got(), k[5]);
            due.is(name + ": the first", y.learned(0, 0), k[6]);
            due.is(name + ": the second", y.learned(1, 0), k[7]);
        }
        SorryToWin up = Due.with("s 2;t 60 1 10 0;l 60");
        up.table();
        up.bid(0, 0, 59);
        up.seat(0, 0, 0);
        up.seat(0, 1, 0);
        due.is("none bids: more by one, to 60", up.learn(0, 1, 1), 0);
        due.is("60 at most", up.learned(0, 0) + up.learned(1, 0), 120);
        due.is("then they pay V for ever", up.learn(0, 1, 400), 0);
        due.is("60 at most after many", up.learned(0, 0) + up.learned(1, 0), 120);
        due.is("399 were sold", up.got(), 399 * 60);
        SorryToWin down = table(0, 0, 60);
        due.is("sorry until it bids V", down.learn(0, 1, 400), 50);
        due.is("and no less", down.learned(0, 0), 10);
    }

    /** "(64 bits, going round)", "shifted right by 33, without sign, modulo k": the draws by BigInteger. */
    private static void learnsGoRound() {
        long[] seeds = {0, 1, -1, Long.MIN_VALUE, Long.MAX_VALUE, 1L << 32, -(1L << 32), 1L << 33, 6364136223846793005L};
        int[] value = {60, 7, 1};
        int[] weight = {1, 9, 3};
        SorryToWin x = Due.with("s 2;t 60 1 3 7;t 7 9 10 0;t 1 3 0 10;n 1;w 1");
        for (long seed : seeds) {
            BigInteger at = BigInteger.valueOf(seed).mod(BigInteger.ONE.shiftLeft(64));
            long gained = 0;
            for (int round = 1; round <= 12; round++) {
                at = next(at);
                int left = at.shiftRight(33).mod(BigInteger.valueOf(13)).intValue();
                int truth = 0;
                while (left >= weight[truth]) {
                    left -= weight[truth];
                    truth++;
                }
                gained += value[truth];
                at = next(next(at));
                due.is("alone and way 1: never sorry", x.learn(0, seed, round), 0);
                due.is("gained by seed " + seed + " in " + round, x.learned(0, 5), gained);
            }
        }
    }

    private static BigInteger next(BigInteger at) {
        BigInteger times = BigInteger.valueOf(6364136223846793005L);
        return at.multiply(times).add(BigInteger.valueOf(1442695040888963407L)).mod(BigInteger.ONE.shiftLeft(64));
    }

    /** "(0 .. 4; below the LEAST, too; 0, if that SALE has it not)", "no such ones (by that)", "(0 without)". */
    private static void learnedAre() {
        SorryToWin x = Due.with("s 5;t 60 9 2 2 2 2 2;n 4", HINTS + ";n 1;l 60", FEWEST);
        x.learn(0, 1, 1);
        for (int seat = 0; seat < 4; seat++) {
            for (int sign = 0; sign < 5; sign++) {
                due.is("all bid 60", x.learned(seat, sign), 60);
            }
            due.is("all gain nothing", x.learned(seat, 5), 0);
            for (int what : new int[] {-1, 6, LOW, HIGH}) {
                int at = seat;
                due.none("what " + what, () -> x.learned(at, what));
            }
        }
        for (int seat : new int[] {-1, 4, LOW, HIGH}) {
            due.none("SEAT " + seat, () -> x.learned(seat, 0));
        }
        due.is("got 60", x.got(), 60);
        x.learn(1, 1, 1);
        due.is("below the LEAST, too", x.learned(0, 0) * 100 + x.learned(0, 1), 1218);
        due.is("unsold: got nothing", x.got(), 0);
        for (int sign = 2; sign < 5; sign++) {
            due.is("that SALE has it not", x.learned(0, sign), 0);
        }
        for (int seat = 1; seat < 4; seat++) {
            int at = seat;
            due.none("by that there is no SEAT " + seat, () -> x.learned(at, 5));
        }
        x.change(1, 0, 4);
        due.none("by that, not by now", () -> x.learned(1, 5));
        x.change(0, 0, 1);
        x.learn(1, 1, 1);
        due.is("by now after another", x.learned(3, 1), 18);
        due.is("what learned is kept apart", x.bids(1, 3, 1), 18);
    }

    /** "0 SALES, 1 TABLES, 2 bytes of the TAPE. NONE for others." */
    private static void counts() {
        SorryToWin x = Due.with(HINTS, MOST);
        x.table();
        x.sale();
        Due.feed(x, "s");
        due.is("SALES", x.count(0), 2);
        due.is("TABLES", x.count(1), 1);
        due.is("bytes", x.count(2), 1);
        for (int what : new int[] {-1, 3, LOW, HIGH}) {
            due.is("count " + what, x.count(what), NONE);
        }
    }
}
