/** Each promise by hand: ordinary inputs, the edges that the document names, wrong inputs. */
public final class PromisesTest {
    private static final int NONE = SorryToWin.NONE;
    private static final long HIDDEN = SorryToWin.HIDDEN;
    /** Two TRUTHS, two SIGNS that hint at them: HELD 12 and 18. */
    private static final String HINTS = "s 2;t 10 1 8 2;t 20 1 2 8";
    /** The SIGN tells the TRUTH: HELD 6, 12. */
    private static final String SURE = "s 2;t 6 1 10 0;t 12 1 0 10";
    /** SIGN 0 is never seen. */
    private static final String NEVER = "s 3;t 7 1 0 1 9";
    private static final Due due = new Due();

    public static void main(String[] args) {
        fresh();
        tapes();
        sales();
        worths();
        tables();
        seats();
        caseSums();
        ways();
        wons();
        bests();
        finds();
        sellers();
        inAnyOrder();
        nears();
        opens();
        learns();
        counts();
        due.close("PromisesTest");
    }

    /** Promise 1, and what a new object has not. */
    private static void fresh() {
        SorryToWin x = new SorryToWin();
        due.is("NONE", NONE, -1);
        due.is("HIDDEN", HIDDEN, -1000000000000000L);
        due.is("count 0", x.count(0), 0);
        due.is("count 1", x.count(1), 0);
        due.is("count 2", x.count(2), 0);
        due.is("told", x.told(0, 0), NONE);
        due.is("fault of nothing", x.fault(), 0);
        due.is("sale of nothing", x.sale(), NONE);
        due.is("got", x.got(), 0);
        due.none("learned", () -> x.learned(0, 5));
    }

    /** Promises 2, 3, 4, 33. */
    private static void tapes() {
        SorryToWin x = new SorryToWin();
        due.is("highest byte first", x.feed('s' << 24 | ' ' << 16 | '2' << 8 | ';', 't' << 24, 0, 0, 0), 5);
        due.is("fault there", x.fault(), 5);
        due.is("zeros between", x.feed(0, 0, ' ', 0, '7' << 8), 7);
        due.is("negative numbers are bytes, too", x.feed(-1, 0, 0, 0, 0), 11);
        due.is("byte 255 is wrong", x.fault(), 7);
        due.is("end beyond", x.end(12), false);
        due.is("end below", x.end(-1), false);
        due.is("end stays", x.count(2), 11);
        due.is("end at the end", x.end(11), true);
        due.is("end cuts", x.end(4), true);
        due.is("end cut", x.count(2), 4);
        due.is("end cannot go back", x.end(5), false);
        due.is("fault after a cut", x.fault(), 4);
        due.is("end of all", x.end(0), true);
        due.is("nothing left", x.count(2), 0);
        for (int n = 1; n <= 12; n++) {
            due.is("feed " + n, x.feed(0x20202020, 0x20202020, 0x20202020, 0x20202020, 0x20202020), 20 * n);
        }
        due.is("one too many", x.feed(0, 0, 32, 0, 0), NONE);
        due.is("refused whole", x.count(2), 240);
        due.is("none at all is not too many", x.feed(0, 0, 0, 0, 0), 240);
        due.is("fault of 240 blanks", x.fault(), 240);
        due.is("cut by three", x.end(237), true);
        due.is("four are refused whole", x.feed(0x20202020, 0, 0, 0, 0), NONE);
        due.is("nothing came", x.count(2), 237);
        due.is("three come", x.feed(0x20002020, 0, 0, 0, 0), 240);
        eachWordCounts(x);
    }

    private static void eachWordCounts(SorryToWin x) {
        for (int i = 0; i < 5; i++) {
            int[] w = new int[5];
            w[i] = 0x20200000;
            due.is("end", x.end(239), true);
            due.is("two in word " + i, x.feed(w[0], w[1], w[2], w[3], w[4]), NONE);
            w[(i + 1) % 5] = ' ';
            due.is("end", x.end(238), true);
            due.is("three in word " + i + " and the next", x.feed(w[0], w[1], w[2], w[3], w[4]), NONE);
            w[i] = ' ' << 8;
            due.is("two in word " + i + " and the next", x.feed(w[0], w[1], w[2], w[3], w[4]), 240);
        }
        x.end(0);
        Due.feed(x, "abcdefgh");
        due.is("the order of bytes", x.feed('s' << 16, ' ' << 8, '2' << 24 | ';', 't' << 24, ' '), 14);
        due.is("end", x.end(0), true);
        x.feed('s' << 16, ' ' << 8, '2' << 24 | ';', 't' << 24, ' ');
        due.is("as a text", x.fault(), 6);
    }

    /** What a text told before it was found wrong is forgotten. */
    private static void noTrace() {
        SorryToWin x = new SorryToWin();
        Due.feed(x, "s 5;t 9 9 2 2 2 2 2;n 3;l 4;w 2;x");
        due.is("wrong at its end", x.sale(), NONE);
        x.end(0);
        Due.feed(x, HINTS);
        due.is("then a right one", x.sale(), 0);
        int[] want = {2, 2, 2, 0, 0, 2};
        for (int what = 0; what < 6; what++) {
            due.is("no trace in " + what, x.told(0, what), want[what]);
        }
    }

    /** Promises 5, 6, 7, 8, 33. */
    private static void sales() {
        noTrace();
        SorryToWin x = Due.with("  s  3;t 07 9 0 1  9 ;n 3;l 60 ; l 05;w 1 ;w 2 ;n 4 ", HINTS);
        due.is("signs", x.told(0, 0), 3);
        due.is("truths", x.told(0, 1), 1);
        due.is("latest n counts", x.told(0, 2), 4);
        due.is("least", x.told(0, 3), 5);
        due.is("way", x.told(0, 4), 2);
        due.is("weights", x.told(0, 5), 9);
        due.is("weights of two", x.told(1, 5), 2);
        due.is("truths of two", x.told(1, 1), 2);
        due.is("bidders at first", x.told(1, 2), 2);
        due.is("least at first", x.told(1, 3), 0);
        due.is("way at first", x.told(1, 4), 0);
        due.is("told 6", x.told(0, 6), NONE);
        due.is("told -1", x.told(0, -1), NONE);
        due.is("told of none", x.told(2, 0), NONE);
        due.is("told of -1", x.told(-1, 0), NONE);
        due.is("V", x.truth(0, 0, 5), 7);
        due.is("W", x.truth(0, 0, 6), 9);
        due.is("of ten", x.truth(0, 0, 2), 9);
        due.is("of ten of the other", x.truth(1, 1, 0), 2);
        due.none("a SIGN too many", () -> x.truth(0, 0, 3));
        due.none("a SIGN too many of two", () -> x.truth(1, 0, 2));
        due.none("what 7", () -> x.truth(0, 0, 7));
        due.none("what -1", () -> x.truth(0, 0, -1));
        due.none("a TRUTH too many", () -> x.truth(1, 2, 5));
        due.none("TRUTH -1", () -> x.truth(1, -1, 5));
        due.none("no SALE", () -> x.truth(2, 0, 5));
        due.none("SALE -1", () -> x.truth(-1, 0, 5));
        changes(x);
        eight(x);
    }

    private static void changes(SorryToWin x) {
        int[] low = {1, 0, 0};
        int[] high = {4, 60, 2};
        for (int what = 0; what < 3; what++) {
            due.is("too low " + what, x.change(1, what, low[what] - 1), false);
            due.is("too high " + what, x.change(1, what, high[what] + 1), false);
            due.is("highest " + what, x.change(1, what, high[what]), true);
            due.is("highest told " + what, x.told(1, 2 + what), high[what]);
            due.is("lowest " + what, x.change(1, what, low[what]), true);
            due.is("lowest told " + what, x.told(1, 2 + what), low[what]);
        }
        due.is("the other stays", x.told(0, 2), 4);
        due.is("what 3", x.change(1, 3, 1), false);
        due.is("what -1", x.change(1, -1, 1), false);
        due.is("no SALE", x.change(2, 0, 1), false);
        due.is("SALE -1", x.change(-1, 0, 1), false);
    }

    private static void eight(SorryToWin x) {
        Due.feed(x, "s 2;t 1 1 5 4");
        due.is("sale with a FAULT", x.sale(), NONE);
        due.is("the tape stays", x.count(2), 13);
        x.end(12);
        Due.feed(x, "5");
        due.is("sale mended", x.sale(), 2);
        due.is("the tape is empty", x.count(2), 0);
        for (int n = 3; n < 8; n++) {
            Due.feed(x, HINTS);
            due.is("sale " + n, x.sale(), n);
        }
        Due.feed(x, HINTS);
        due.is("a ninth", x.sale(), NONE);
        due.is("its tape stays", x.count(2), HINTS.length());
        due.is("it has no FAULT", x.fault(), NONE);
        due.is("eight", x.count(0), 8);
        due.is("the first one is as it was", x.told(0, 0), 3);
    }

    /** Promise 9. */
    private static void worths() {
        SorryToWin x = Due.with(HINTS, NEVER, "s 2;t 0 3 5 5");
        due.is("one SIGN", x.worth(0, 0, NONE, NONE, NONE, 0), 12);
        due.is("one SIGN, below", x.worth(0, 0, NONE, NONE, NONE, 1), 1);
        due.is("twice", x.worth(0, 0, 0, NONE, NONE, 0), 180);
        due.is("twice, below", x.worth(0, 0, 0, NONE, NONE, 1), 17);
        due.is("gaps", x.worth(0, 1, NONE, NONE, 1, 0), 330);
        due.is("gaps, below", x.worth(0, 1, NONE, NONE, 1, 1), 17);
        due.is("four", x.worth(0, 1, 1, 0, 0, 0), 15);
        due.is("four alike", x.worth(0, 0, 0, 0, 0, 0), 2580);
        due.is("four alike, below", x.worth(0, 0, 0, 0, 0, 1), 257);
        due.is("nothing over one", x.worth(2, 0, 1, NONE, NONE, 0), 0);
        due.is("nothing over one, below", x.worth(2, 0, 1, NONE, NONE, 1), 1);
        due.is("no first", x.worth(0, NONE, 0, NONE, NONE, 0), NONE);
        due.is("no such first", x.worth(0, 2, NONE, NONE, NONE, 0), NONE);
        due.is("no such second", x.worth(0, 0, 2, NONE, NONE, 0), NONE);
        due.is("no such third", x.worth(0, 0, NONE, 5, NONE, 0), NONE);
        due.is("no such fourth", x.worth(0, 0, NONE, NONE, -2, 0), NONE);
        due.is("what 2", x.worth(0, 0, NONE, NONE, NONE, 2), NONE);
        due.is("what -1", x.worth(0, 0, NONE, NONE, NONE, -1), NONE);
        due.is("no SALE", x.worth(3, 0, NONE, NONE, NONE, 0), NONE);
        due.is("no weight", x.worth(1, 0, NONE, NONE, NONE, 0), NONE);
        due.is("no weight, below", x.worth(1, 1, 0, NONE, NONE, 1), NONE);
        due.is("weight", x.worth(1, 1, 2, NONE, NONE, 0), 7);
    }

    /** Promises 10, 11, 33. */
    private static void tables() {
        SorryToWin x = Due.with("s 5;t 9 1 2 2 2 2 2");
        due.is("no table yet", x.bid(0, 0, 1), false);
        for (int n = 0; n < 10; n++) {
            due.is("table " + n, x.table(), n);
        }
        due.is("an eleventh", x.table(), NONE);
        due.is("ten", x.count(1), 10);
        due.is("seat it", x.seat(0, 1, 9), true);
        due.is("0 at first", x.bids(0, 1, 4), 0);
        due.is("highest", x.bid(9, 4, 60), true);
        due.is("lowest", x.bid(9, 0, 0), true);
        due.is("too high", x.bid(9, 4, 61), false);
        due.is("too low", x.bid(9, 4, -1), false);
        due.is("SIGN 5", x.bid(9, 5, 1), false);
        due.is("SIGN -1", x.bid(9, -1, 1), false);
        due.is("TABLE 10", x.bid(10, 0, 1), false);
        due.is("TABLE -1", x.bid(-1, 0, 1), false);
        due.is("stays", x.bids(0, 1, 4), 60);
        due.is("others' stay", x.bids(0, 1, 3), 0);
        due.is("other tables stay", x.seat(0, 0, 8) ? x.bids(0, 0, 4) : 99, 0);
    }

    /** Promises 12, 13. */
    private static void seats() {
        SorryToWin x = Due.with(HINTS, NEVER);
        due.is("PLAIN at first", x.bids(0, 0, 0), 12);
        due.is("WISE", x.seat(0, 0, -2), true);
        due.is("WISE bids by 0", x.bids(0, 0, 0), 10);
        due.is("WISE bids by 1", x.bids(0, 0, 1), 19);
        due.is("the other seat stays", x.bids(0, 1, 1), 18);
        due.is("alone", x.change(0, 0, 1), true);
        due.is("WISE alone bids as PLAIN", x.bids(0, 0, 1), 18);
        due.is("SEAT above N", x.bids(0, 1, 1), NONE);
        due.is("SEAT above N is seated", x.seat(0, 3, -2), true);
        due.is("all four", x.change(0, 0, 4), true);
        due.is("it was seated", x.bids(0, 3, 0), 10);
        due.is("SEAT 4", x.seat(0, 4, -1), false);
        due.is("SEAT -1", x.seat(0, -1, -1), false);
        due.is("no TABLE yet", x.seat(0, 0, 0), false);
        due.is("TABLE -3", x.seat(0, 0, -3), false);
        due.is("no SALE", x.seat(2, 0, -1), false);
        due.is("stays WISE", x.bids(0, 0, 0), 10);
        due.is("PLAIN again", x.seat(0, 0, -1) ? x.bids(0, 0, 0) : 99, 12);
        x.table();
        x.bid(0, 1, 3);
        x.change(0, 1, 5);
        due.is("a TABLE", x.seat(0, 2, 0), true);
        due.is("bids below the LEAST, too", x.bids(0, 2, 1), 3);
        due.is("HELD without a weight", x.bids(1, 0, 0), 0);
        due.is("SIGN 2", x.bids(0, 0, 2), NONE);
        due.is("SIGN -1", x.bids(0, 0, -1), NONE);
        due.is("SEAT 4 bids", x.bids(0, 4, 0), NONE);
        due.is("SEAT -1 bids", x.bids(0, -1, 0), NONE);
        due.is("no SALE bids", x.bids(2, 0, 0), NONE);
        due.is("SIGN of the other SALE", x.bids(1, 0, 2), 7);
    }

    /** Promises 14, 15: SURE, both bid 6 and 12 alike; the bids of TABLES. */
    private static void caseSums() {
        SorryToWin x = Due.with(SURE, HINTS);
        due.is("all", x.cases(0, 0), 2400);
        due.is("takes", x.cases(0, 1), 1200 * 6 + 1200 * 12);
        due.is("sorry: not by as much as V", x.cases(0, 2), 0);
        due.is("unsold", x.cases(0, 3), 0);
        due.is("gain", x.gain(0, 0), 0);
        x.change(0, 1, 12);
        due.is("a bid of the LEAST counts", x.cases(0, 1), 1200 * 12);
        due.is("unsold below the LEAST", x.cases(0, 3), 1200);
        x.change(0, 1, 13);
        due.is("none bids", x.cases(0, 3), 2400);
        due.is("takes nothing", x.cases(0, 1), 0);
        x.change(0, 1, 0);
        x.table();
        x.bid(0, 0, 7);
        x.seat(0, 1, 0);
        due.is("SEAT 1 bids 7 and 0: takes", x.cases(0, 1), 1200 * 7 + 1200 * 12);
        due.is("sorry by one", x.cases(0, 2), 1200);
        due.is("gain of the sorry one", x.gain(0, 1), -1200);
        due.is("gain of the other", x.gain(0, 0), 0);
        x.change(0, 0, 3);
        due.is("three: all", x.cases(0, 0), 24000);
        due.is("three alike by V 12: thirds", x.gain(0, 2), 0);
        due.is("three: takes", x.cases(0, 1), 12000 * 7 + 12000 * 12);
        due.is("one of each hint", x.cases(1, 2), 1200);
        due.is("what 4", x.cases(0, 4), NONE);
        due.is("what -1", x.cases(0, -1), NONE);
        due.is("no SALE", x.cases(2, 0), NONE);
        due.is("gain of SEAT 3", x.gain(0, 3), HIDDEN);
        due.is("gain of SEAT -1", x.gain(0, -1), HIDDEN);
        due.is("gain of SEAT 2 of 2", x.gain(1, 2), HIDDEN);
        due.is("gain of no SALE", x.gain(2, 0), HIDDEN);
    }

    /** The WAYS: one TRUTH of V 10, all see all alike, TABLES bid by SIGN 0 alone. */
    private static void ways() {
        SorryToWin x = Due.with("s 2;t 10 1 10 0;n 3;l 2");
        int[] bid = {9, 5, 1};
        for (int seat = 0; seat < 3; seat++) {
            x.table();
            x.bid(seat, 0, bid[seat]);
            x.seat(0, seat, seat);
        }
        due.is("way 0 takes", x.cases(0, 1), 12000 * 9);
        due.is("way 0 gain", x.gain(0, 0), 12000);
        due.is("way 0 gain of a loser", x.gain(0, 1), 0);
        x.change(0, 2, 1);
        due.is("way 1 takes", x.cases(0, 1), 12000 * 5);
        due.is("way 1 gain", x.gain(0, 0), 12000 * 5);
        x.change(0, 2, 2);
        due.is("way 2 takes, not from who bids not", x.cases(0, 1), 12000 * 14);
        due.is("way 2 gain", x.gain(0, 0), 12000);
        due.is("way 2 gain of a loser", x.gain(0, 1), -12000 * 5);
        due.is("way 2 gain of who bids not", x.gain(0, 2), 0);
        x.bid(1, 0, 9);
        due.is("alike, way 2", x.gain(0, 1), 12000 * 5 - 12000 * 9);
        x.change(0, 2, 1);
        due.is("alike, way 1: its own", x.cases(0, 1), 12000 * 9);
        due.is("alike, way 1: half", x.gain(0, 1), 6000);
        x.bid(2, 0, 9);
        due.is("three alike: a third", x.gain(0, 1), 4000);
        x.bid(0, 0, 11);
        x.bid(1, 0, 1);
        x.bid(2, 0, 0);
        due.is("way 1 without another: the LEAST", x.cases(0, 1), 12000 * 2);
        due.is("way 1: not sorry by the price", x.cases(0, 2), 0);
        x.change(0, 2, 2);
        due.is("way 2: sorry by its bid", x.cases(0, 2), 12000);
        x.change(0, 0, 4);
        due.is("SEAT 3 sits PLAIN", x.gain(0, 3), -120000 * 10);
    }

    /** Promises 16, 17. */
    private static void wons() {
        SorryToWin x = Due.with(HINTS, SURE, NEVER);
        due.is("won up", x.won(0, 0, 1, 0), 190);
        due.is("won down", x.won(0, 0, 1, 1), 11);
        due.is("less up", x.less(0, 0, 1, 0), 8);
        due.is("less down", x.less(0, 0, 1, 1), 11);
        due.is("won when sure", x.won(1, 1, 1, 0), 12);
        due.is("won when sure, down", x.won(1, 1, 1, 1), 1);
        due.is("less of nothing", x.less(1, 1, 1, 0), 0);
        due.is("less of nothing, down", x.less(1, 1, 1, 1), 1);
        x.table();
        x.bid(0, 0, 30);
        x.bid(0, 1, 15);
        x.seat(0, 1, 0);
        due.is("never wins against 30", x.won(0, 0, 0, 0), NONE);
        due.is("less then", x.less(0, 0, 0, 0), HIDDEN);
        due.is("wins by 1 against 15 by 1 alone: both saw it", x.won(0, 0, 1, 0), 330);
        due.is("and down", x.won(0, 0, 1, 1), 17);
        due.is("less is below 0: more", x.less(0, 0, 1, 0), -24);
        due.is("its lower number is not", x.less(0, 0, 1, 1), 17);
        due.is("no such SIGN won", x.won(0, 0, 2, 0), NONE);
        due.is("no such SEAT won", x.won(0, 2, 0, 0), NONE);
        due.is("SEAT -1 won", x.won(0, -1, 0, 0), NONE);
        due.is("what 2 won", x.won(0, 0, 1, 2), NONE);
        due.is("what -1 won", x.won(0, 0, 1, -1), NONE);
        due.is("no SALE won", x.won(3, 0, 1, 0), NONE);
        due.is("no such SIGN less", x.less(0, 0, -1, 0), HIDDEN);
        due.is("no such SEAT less", x.less(0, 2, 0, 0), HIDDEN);
        due.is("what 2 less", x.less(0, 0, 1, 2), HIDDEN);
        due.is("no SALE less", x.less(-1, 0, 1, 0), HIDDEN);
        due.is("a SIGN never seen", x.won(2, 0, 0, 0), NONE);
        due.is("a SIGN never seen, less", x.less(2, 0, 0, 1), HIDDEN);
    }

    /** Promises 18, 19. One TRUTH of V 10, all see SIGN 0; SEAT 1 at a TABLE. */
    private static void bests() {
        SorryToWin x = Due.with("s 2;t 10 1 10 0");
        x.table();
        x.bid(0, 0, 4);
        x.seat(0, 1, 0);
        due.is("one above", x.best(0, 0, 0), 5);
        due.is("a SIGN never seen: the lowest", x.best(0, 0, 1), 0);
        due.is("SEAT 1 against 10", x.best(0, 1, 0), 0);
        x.bid(0, 0, 8);
        due.is("half of 2 is as much as 1: the lower", x.best(0, 0, 0), 8);
        x.change(0, 1, 9);
        due.is("alone at the LEAST", x.best(0, 0, 0), 9);
        x.change(0, 1, 10);
        due.is("nothing to gain: none", x.best(0, 0, 0), 0);
        x.change(0, 1, 0);
        x.bid(0, 0, 0);
        due.is("against 0", x.best(0, 0, 0), 1);
        x.change(0, 2, 1);
        due.is("way 1 against 0", x.best(0, 0, 0), 1);
        x.change(0, 2, 2);
        due.is("way 2 against 0", x.best(0, 0, 0), 1);
        due.is("PLAIN gains nothing by 10: not at rest", x.judge(0), 0);
        x.table();
        x.bid(1, 0, 1);
        x.bid(1, 1, 33);
        x.seat(0, 0, 1);
        due.is("way 2: SEAT 1 would bid 2", x.judge(0), 10);
        x.bid(0, 0, 10);
        due.is("way 2: SEAT 0 had better not", x.judge(0), 0);
        due.is("best is 0 then", x.best(0, 0, 0), 0);
        judges(x);
        due.is("SEAT 2", x.best(0, 2, 0), NONE);
        due.is("SEAT -1", x.best(0, -1, 0), NONE);
        due.is("SIGN 2", x.best(0, 0, 2), NONE);
        due.is("SIGN -1", x.best(0, 0, -1), NONE);
        due.is("no SALE", x.best(2, 0, 0), NONE);
    }

    private static void judges(SorryToWin x) {
        x.change(0, 2, 1);
        x.bid(1, 0, 10);
        due.is("way 1, both bid V: at rest", x.judge(0), NONE);
        x.bid(1, 0, 11);
        due.is("way 1, 11 against 10: at rest", x.judge(0), NONE);
        x.bid(0, 0, 11);
        due.is("way 1, 11 against 11: not", x.judge(0), 0);
        due.is("no SALE to judge", x.judge(1), NONE);
        due.is("SALE -1 to judge", x.judge(-1), NONE);
        Due.feed(x, SURE);
        x.sale();
        x.table();
        x.bid(2, 0, 6);
        x.bid(2, 1, 12);
        x.seat(1, 1, 2);
        due.is("sure and way 0: bids of V rest", x.judge(1), NONE);
        x.bid(2, 1, 10);
        due.is("SEAT 0 by SIGN 1 would bid less", x.judge(1), 1);
        x.change(1, 2, 1);
        due.is("way 1: at rest again", x.judge(1), NONE);
        x.seat(1, 0, 2);
        due.is("way 1, 10 against 10: SIGN 1 of SEAT 0", x.judge(1), 1);
        x.seat(1, 1, -1);
        due.is("way 1, 10 against 12: none gains more", x.judge(1), NONE);
    }

    /** Promise 20. */
    private static void finds() {
        SorryToWin x = Due.with("s 2;t 46 3 9 1;n 1", "s 2;t 5 4 7 3;w 2", "s 2;t 25 4 8 2;t 36 2 3 7;w 2",
                "s 3;t 4 6 9 1 0;t 19 3 1 8 1;t 2 9 0 0 10;w 1", "s 2;t 19 9 9 1;n 3;l 8");
        x.table();
        due.is("seated", x.seat(0, 0, 0), true);
        x.bid(0, 2, 44);
        due.is("alone: 0 rests", x.find(0, 0), 0);
        due.is("its row", x.bids(0, 0, 0), 0);
        x.change(0, 1, 20);
        due.is("alone: the LEAST rests", x.find(0, 0), 0);
        due.is("its row by 0", x.bids(0, 0, 0), 20);
        due.is("its row by 1", x.bids(0, 0, 1), 20);
        due.is("goes round", x.find(1, 0), 1);
        due.is("the row that came again", x.bids(0, 0, 0), 0);
        due.is("is spent", x.find(2, 0), 2);
        due.is("its last row", x.bids(0, 0, 1), 19);
        x.seat(3, 0, 0);
        due.is("SIGN 2 of the TABLE stayed", x.bids(3, 0, 2), 44);
        due.is("goes round with three", x.find(3, 0), 1);
        due.is("the row by 0", x.bids(3, 0, 0), 5);
        due.is("the row by 1", x.bids(3, 0, 1), 17);
        due.is("the row by 2", x.bids(3, 0, 2), 17);
        due.is("rests among three", x.find(4, 0), 0);
        due.is("just below V", x.bids(0, 0, 0), 18);
        due.is("SEATS do not matter", x.seat(4, 0, 0) && x.seat(4, 1, -2) ? x.find(4, 0) : 99, 0);
        due.is("TABLE 1", x.find(0, 1), NONE);
        due.is("TABLE -1", x.find(0, -1), NONE);
        due.is("no SALE", x.find(5, 0), NONE);
        due.is("refused: the row stays", x.bids(0, 0, 0), 18);
    }

    /** Promises 21, 22, 23, 26. */
    private static void sellers() {
        SorryToWin x = Due.with(HINTS, SURE);
        due.is("by two", x.by(0, 2, false, 0), 399);
        due.is("by two, down", x.by(0, 2, false, 1), 25);
        due.is("by two WISE", x.by(0, 2, true, 0), 797);
        due.is("by two WISE, down", x.by(0, 2, true, 1), 50);
        due.is("by one WISE: as PLAIN", x.by(0, 1, true, 0), 15);
        due.is("by four of the sure", x.by(1, 4, false, 0), 9);
        due.is("by four of the sure, down", x.by(1, 4, false, 1), 1);
        x.seat(0, 0, -2);
        x.change(0, 0, 1);
        due.is("SEATS and N do not matter", x.by(0, 2, false, 0), 399);
        due.is("nor to the WISE", x.by(0, 2, true, 0), 797);
        x.change(0, 1, 60);
        due.is("the LEAST does", x.by(0, 2, true, 0), 0);
        due.is("nothing over one", x.by(0, 2, true, 1), 1);
        x.change(0, 1, 0);
        due.is("by none", x.by(0, 0, false, 0), NONE);
        due.is("by five", x.by(0, 5, false, 0), NONE);
        due.is("what 2", x.by(0, 2, false, 2), NONE);
        due.is("what -1", x.by(0, 2, false, -1), NONE);
        due.is("no SALE", x.by(2, 2, false, 0), NONE);
        due.is("bar, way 0: any up to 12, the lowest", x.bar(0, false), 0);
        x.change(0, 2, 1);
        due.is("bar, alone and way 1: 12 always or 18 half: 12", x.bar(0, false), 12);
        due.is("bar alone, WISE: as PLAIN", x.bar(0, true), 12);
        x.change(0, 2, 2);
        due.is("bar, way 2: the lowest", x.bar(0, false), 0);
        x.change(0, 2, 1);
        x.change(0, 0, 2);
        due.is("bar of two, way 1: 0 as good as 12, and lower", x.bar(0, false), 0);
        due.is("bar of no SALE", x.bar(2, false), NONE);
        due.is("told LEAST stays", x.told(0, 3), 0);
        due.is("telling the sure", x.telling(1), 12000 * 6 + 12000 * 12);
        x.seat(0, 0, -1);
        due.is("telling", x.telling(0), 334560);
        due.is("telling of no SALE", x.telling(2), NONE);
        due.is("as one of two, way 1", x.asOne(0), 0);
        x.change(0, 1, 12);
        due.is("as one pay the LEAST, but not by two 0s", x.asOne(0), 12 * 12 * (200 - 68));
        x.change(0, 2, 0);
        due.is("as one, way 0", x.asOne(0), 12 * (15 * 64 + 19 * 68));
        due.is("as one of the sure", x.asOne(1), 1200 * 6 + 1200 * 12);
        x.change(1, 0, 1);
        due.is("as one alone", x.asOne(1), NONE);
        due.is("as one of no SALE", x.asOne(2), NONE);
        due.is("telling one", x.telling(1), 1200 * 6 + 1200 * 12);
    }

    /** Each question on a new object with two SALES, asked first or after others: no answer hangs on what was asked before. */
    private static void inAnyOrder() {
        for (int first = 0; first < 12; first++) {
            for (int then = 0; then < 12; then++) {
                long alone = asked(two(), then);
                SorryToWin x = two();
                asked(x, first);
                due.is("question " + then + " after " + first, asked(x, then), alone);
            }
        }
    }

    private static SorryToWin two() {
        SorryToWin x = Due.with(HINTS + ";w 1", "s 3;t 44 5 3 3 4;t 7 1 0 1 9;t 23 2 5 5 0;n 3;l 5;w 2");
        x.table();
        return x;
    }

    private static long asked(SorryToWin x, int which) {
        int sale = which % 2;
        switch (which / 2) {
            case 0:
                return x.bar(sale, false) * 1000 + x.best(sale, 1, 1);
            case 1:
                return x.nearGain(sale) * 61 + x.near(sale, 1);
            case 2:
                return x.telling(sale);
            case 3:
                return x.asOne(sale) * 100 + x.judge(sale);
            case 4:
                return x.cases(sale, 1) + 17 * x.won(sale, 1, 1, 0) + 31 * x.less(sale, 0, 1, 0) + x.find(sale, 0);
            default:
                return x.learn(sale, 3, 40) + 100 * x.learned(0, 0) + 10000 * x.learned(1, 2) + x.got()
                    + 1000000 * x.by(sale, 3, true, 0) + x.gain(sale, 1) + 7 * x.nearGain(sale);
        }
    }

    /** Promises 24, 25. */
    private static void nears() {
        SorryToWin x = Due.with(HINTS, NEVER + ";n 1;l 5");
        x.change(0, 2, 1);
        due.is("near", x.near(0, 1), 19);
        due.is("near the lower", x.near(0, 0), 0);
        due.is("near gain", x.nearGain(0), 384);
        x.change(0, 2, 0);
        due.is("way 0: 13 wins against 12 alone, 19 always", x.near(0, 1), 13);
        due.is("way 0: gain", x.nearGain(0), 12 * 2 * 7);
        x.seat(0, 0, -2);
        due.is("SEAT 0 does not matter", x.nearGain(0), 12 * 2 * 7);
        x.table();
        x.seat(0, 1, 0);
        due.is("SEAT 1 does", x.near(0, 1), 1);
        due.is("its gain", x.nearGain(0), 12 * 10 * (19 + 9));
        due.is("alone at the LEAST", x.near(1, 0), 5);
        due.is("alone: without a SIGN", x.nearGain(1), 24);
        due.is("TRUTH 2", x.near(0, 2), NONE);
        due.is("TRUTH -1", x.near(0, -1), NONE);
        due.is("no SALE", x.near(2, 0), NONE);
        due.is("gain of no SALE", x.nearGain(2), HIDDEN);
        due.is("gain of SALE -1", x.nearGain(-1), HIDDEN);
    }

    /** Promises 27, 28, 29. */
    private static void opens() {
        SorryToWin x = Due.with(HINTS, NEVER + ";n 1;l 5");
        due.is("0 at first: the lower SEAT leaves", x.open(0, 0), 1);
        due.is("at 10", x.open(0, 1), 10);
        due.is("lay", x.lay(0, 1), true);
        due.is("SEAT 1 leaves", x.leaves(0, 0, 0), 1);
        due.is("at 10", x.leaves(0, 0, 1), 10);
        x.change(0, 1, 14);
        due.is("at the LEAST", x.leaves(0, 0, 1), 14);
        x.change(0, 1, 0);
        x.change(0, 0, 3);
        x.lay(2, 1);
        due.is("three: who stays", x.open(0, 0), 2);
        due.is("three: its price", x.open(0, 1), 18);
        due.is("three: first", x.leaves(0, 0, 0), 1);
        due.is("three: first at", x.leaves(0, 0, 1), 10);
        due.is("three: second", x.leaves(0, 1, 0), 0);
        due.is("three: second at", x.leaves(0, 1, 1), 18);
        due.is("three: no third", x.leaves(0, 2, 0), NONE);
        due.is("i -1", x.leaves(0, -1, 0), NONE);
        due.is("what 2 of leaves", x.leaves(0, 0, 2), NONE);
        due.is("what 2 of open", x.open(0, 2), NONE);
        due.is("what -1 of open", x.open(0, -1), NONE);
        due.is("no SALE", x.open(2, 0), NONE);
        due.is("no SALE of leaves", x.leaves(2, 0, 0), NONE);
        due.is("alone", x.open(1, 0), 0);
        due.is("alone at the LEAST", x.open(1, 1), 5);
        due.is("alone: none leaves", x.leaves(1, 0, 0), NONE);
        due.is("SEAT 4", x.lay(4, 0), false);
        due.is("SEAT -1", x.lay(-1, 0), false);
        due.is("SIGN 5", x.lay(0, 5), false);
        due.is("SIGN -1", x.lay(0, -1), false);
        due.is("SIGN 4", x.lay(2, 4), true);
        due.is("that it has not", x.open(0, 0), NONE);
        due.is("nor leaves", x.leaves(0, 0, 0), NONE);
        x.change(0, 0, 2);
        due.is("on a SEAT that does not count", x.open(0, 0), 0);
        noLower();
    }

    /** Who leaves later leaves no lower, though what it saw may tell it so. */
    private static void noLower() {
        SorryToWin x = Due.with("s 3;t 30 1 5 0 5;t 2 1 0 10 0;t 0 9 1 0 9;n 2");
        x.lay(0, 0);
        x.lay(1, 0);
        due.is("both 0", x.leaves(0, 0, 1), 30 * 25 / 34);
        x.lay(1, 1);
        due.is("sure of 2 leaves first", x.leaves(0, 0, 0), 1);
        x.change(0, 0, 3);
        x.lay(0, 0);
        x.lay(1, 0);
        x.lay(2, 1);
        due.is("first at 2", x.leaves(0, 0, 1), 2);
        due.is("then 0 and 1 together are never seen: no lower", x.leaves(0, 1, 1), 2);
        due.is("of those alike the lower SEAT", x.leaves(0, 1, 0), 0);
        due.is("who stays pays that", x.open(0, 1), 2);
    }

    /** Promises 30, 31, 32: one TRUTH, all see SIGN 0, so that only who wins is drawn. */
    private static void learns() {
        SorryToWin x = Due.with("s 2;t 10 1 10 0;n 1;l 5", "s 2;t 10 1 10 0", "s 3;t 4 1 0 10 0;n 3;l 4");
        due.is("alone: pays V", x.learn(0, 7, 3), 0);
        due.is("gained nothing", x.learned(0, 5), 0);
        due.is("got", x.got(), 30);
        due.none("SEAT 1 of 1", () -> x.learned(1, 0));
        x.table();
        x.bid(0, 0, 13);
        x.bid(0, 1, 7);
        x.bid(0, 3, 9);
        x.seat(1, 0, 0);
        due.is("13 against 10, three rounds", x.learn(1, -1, 3), 3);
        due.is("became less by one each", x.learned(0, 0), 10);
        due.is("by SIGN 1 as it was", x.learned(0, 1), 7);
        due.is("a SIGN that it has not", x.learned(0, 3), 0);
        due.is("gained", x.learned(0, 5), -6);
        due.is("got three", x.got(), 36);
        due.is("the other", x.learned(1, 0), 10);
        due.is("the TABLE stays", x.bids(1, 0, 0), 13);
        x.bid(0, 0, 8);
        x.seat(1, 1, 0);
        due.is("8 against 8", x.learn(1, 5, 1), 0);
        due.is("one more by who did not win", x.learned(0, 0) + x.learned(1, 0), 17);
        due.is("one gained 2", x.learned(0, 5) + x.learned(1, 5), 2);
        due.is("in the end one bids V", x.learn(1, 5, 400), 0);
        due.is("and the other one less, as no one gains", x.learned(0, 0) + x.learned(1, 0), 19);
        due.is("no rounds", x.learn(1, 5, 0), NONE);
        due.is("too many rounds", x.learn(1, 5, 401), NONE);
        due.is("no SALE", x.learn(3, 5, 1), NONE);
        due.is("SALE -1", x.learn(-1, 5, 1), NONE);
        due.is("refused: the latest stays", x.learned(0, 0) + x.learned(1, 0), 19);
        due.none("SEAT 2 of 2", () -> x.learned(2, 0));
        due.none("SEAT -1", () -> x.learned(-1, 0));
        due.none("what 6", () -> x.learned(0, 6));
        due.none("what -1", () -> x.learned(0, -1));
        x.change(1, 0, 1);
        due.is("by the N of then", x.learned(1, 1), 7);
        noBids(x);
        fewer();
        draws();
    }

    /** A LEARN of fewer SIGNS and SEATS after one of more. */
    private static void fewer() {
        SorryToWin x = Due.with("s 5;t 30 1 2 2 2 2 2;n 4", HINTS);
        due.is("of many", x.learn(0, 1, 5), 0);
        due.is("a SIGN of many", x.learned(3, 4) > 0, true);
        x.learn(1, 1, 5);
        due.is("not told by it", x.learned(1, 4), 0);
        due.none("nor the SEAT", () -> x.learned(3, 4));
    }

    private static void noBids(SorryToWin x) {
        for (int seat = 0; seat < 3; seat++) {
            x.table();
            x.bid(1 + seat, 1, seat);
            x.seat(2, seat, 1 + seat);
        }
        due.is("none bids twice", x.learn(2, 0, 2), 0);
        due.is("V is the LEAST: each more by one", x.learned(0, 1) * 100 + x.learned(1, 1) * 10 + x.learned(2, 1), 234);
        due.is("got nothing", x.got(), 0);
        x.change(2, 1, 5);
        due.is("LEAST above V", x.learn(2, 0, 400), 0);
        due.is("none learns", x.learned(0, 1) * 100 + x.learned(1, 1) * 10 + x.learned(2, 1), 12);
        x.change(2, 1, 0);
        x.change(2, 2, 2);
        due.is("way 2: 2 wins and all pay", x.learn(2, 0, 1), 0);
        due.is("gained by who won", x.learned(2, 5), 2);
        due.is("gained by who bid 1", x.learned(1, 5), -1);
        due.is("got of all", x.got(), 3);
        due.is("the others more by one", x.learned(0, 1) * 100 + x.learned(1, 1) * 10 + x.learned(2, 1), 122);
        x.change(2, 2, 1);
        due.is("way 1: pays the next", x.learn(2, 0, 1) * 10 + x.got(), 1);
        x.bid(1, 1, 60);
        x.bid(2, 1, 60);
        due.is("way 1 at 60: sorry", x.learn(2, 0, 1), 1);
        due.is("one of them less by one", x.learned(0, 1) + x.learned(1, 1), 119);
    }

    /**
     * Draws written out: by seed 1 the shifted numbers are 908834774, 1093944153, 1392341196, 822192870, 1708211034,
     * 1074839795; by 9 they leave 5, 3, 3, 3, 0, 8, by 10 they leave 4, 3, 6, 0, 4, 5.
     */
    private static void draws() {
        SorryToWin x = Due.with("s 2;t 50 5 3 7;t 20 4 6 4;n 1", "s 2;t 50 4 4 6;t 20 5 3 7;n 1", "s 2;t 9 6 10 0;n 4");
        x.table();
        x.bid(0, 0, 1);
        x.bid(0, 1, 5);
        x.seat(0, 0, 0);
        x.seat(1, 0, 0);
        due.is("learn", x.learn(0, 1, 1), 0);
        due.is("5: second TRUTH, 3: SIGN 0 of 6", x.learned(0, 5), 20 - 1);
        due.is("got that bid", x.got(), 1);
        due.is("learn the other", x.learn(1, 1, 1), 0);
        due.is("5: second TRUTH, 3: SIGN 1 after 3", x.learned(0, 5), 20 - 5);
        due.is("two rounds", x.learn(0, 1, 2), 0);
        due.is("a draw for the only winner, then 3, 4", x.learned(0, 5), 20 - 1 + 50 - 5);
        x.change(0, 1, 2);
        due.is("none bids at first", x.learn(0, 1, 2), 0);
        due.is("no draw for it, then 3, 0", x.learned(0, 5), 50 - 2);
        winners(x);
    }

    /** Four SEATS, so that the sixth number, 1074839795, draws who wins: by 4 it leaves 3, by 3 it leaves 2, by 2 one. */
    private static void winners(SorryToWin x) {
        x.table();
        x.bid(1, 0, 5);
        for (int seat = 0; seat < 4; seat++) {
            x.seat(2, seat, 1);
        }
        due.is("the fourth of four", x.learn(2, 1, 1) + x.learned(3, 5), 4);
        x.seat(2, 3, 0);
        due.is("the third of three", x.learn(2, 1, 1) + x.learned(2, 5), 4);
        x.seat(2, 0, 0);
        due.is("the second of two, SEAT 2", x.learn(2, 1, 1) + x.learned(2, 5), 4);
        due.is("who won not learns", x.learned(2, 0) * 10 + x.learned(1, 0), 56);
        due.is("who bid less learns, too", x.learned(0, 0) * 10 + x.learned(3, 0), 22);
        x.seat(2, 2, 0);
        due.is("the only one", x.learn(2, 1, 1) + x.learned(1, 5), 4);
    }

    /** Promise 33. */
    private static void counts() {
        SorryToWin x = Due.with(HINTS, SURE);
        x.table();
        Due.feed(x, "s 2");
        due.is("SALES", x.count(0), 2);
        due.is("TABLES", x.count(1), 1);
        due.is("bytes", x.count(2), 3);
        due.is("count 3", x.count(3), NONE);
        due.is("count -1", x.count(-1), NONE);
    }
}
