import java.util.NoSuchElementException;

/** What the tests share: counting wrong answers, feeding texts. */
final class Due {
    private int wrong = 0;
    private int checked = 0;

    void is(String call, long got, long want) {
        checked++;
        if (got != want) {
            wrong++;
            System.out.println(call + " answered " + got + ", due is " + want);
        }
    }

    void is(String call, boolean got, boolean want) {
        is(call, got ? 1 : 0, want ? 1 : 0);
    }

    /** One of the two calls that throw. */
    interface Asked {
        int ask();
    }

    void none(String call, Asked asked) {
        checked++;
        try {
            int got = asked.ask();
            wrong++;
            System.out.println(call + " answered " + got + ", due is NoSuchElementException");
        } catch (NoSuchElementException e) {
            // just that is due
        }
    }

    void close(String name) {
        System.out.println(name + ": " + checked + " checked, " + wrong + " wrong");
        if (wrong != 0 || checked == 0) {
            System.exit(1);
        }
    }

    /** Feeds a text of any length, twenty bytes at a time; answers what the last feed did. */
    static int feed(SorryToWin x, String text) {
        int last = x.count(2);
        for (int from = 0; from < text.length(); from += 20) {
            int[] word = new int[5];
            for (int i = 0; i < 20; i++) {
                int b = from + i < text.length() ? text.charAt(from + i) & 255 : 0;
                word[i / 4] = word[i / 4] << 8 | b;
            }
            last = x.feed(word[0], word[1], word[2], word[3], word[4]);
        }
        return last;
    }

    static SorryToWin with(String... texts) {
        SorryToWin x = new SorryToWin();
        for (String text : texts) {
            feed(x, text);
            if (x.sale() == SorryToWin.NONE) {
                System.out.println("no SALE: " + text);
                System.exit(1);
            }
        }
        return x;
    }

    static int faultOf(String text) {
        SorryToWin x = new SorryToWin();
        feed(x, text);
        return x.fault();
    }
}
