import java.util.Random;

/** Promise 4: FAULTS by hand, and made-up texts against a reader that goes byte by byte. */
public final class FaultTest {
    private static final Due due = new Due();

    public static void main(String[] args) {
        byHand();
        Random r = new Random(4);
        int whole = 0;
        for (int n = 0; n < 60000; n++) {
            String text = made(r);
            int want = slowFault(text);
            whole += want < 0 ? 1 : 0;
            SorryToWin x = new SorryToWin();
            Due.feed(x, text);
            due.is("fault of '" + text + "'", x.fault(), want);
            due.is("count after", x.count(2), text.length());
            due.is("sale of '" + text + "'", x.sale(), want < 0 ? 0 : -1);
        }
        due.is("enough whole ones", whole > 5000, true);
        due.close("FaultTest");
    }

    private static void at(String text, int want) {
        due.is("fault of '" + text + "'", Due.faultOf(text), want);
        due.is("slow fault of '" + text + "'", slowFault(text), want);
    }

    private static void byHand() {
        at("", 0);
        at("   ", 3);
        at("  s", 3);
        at("S 2", 0);
        at(";s 2", 0);
        at("t 5 1 5 5", 0);
        at("s2", 1);
        at("s 1", 2);
        at("s 6", 2);
        at("s 5", 3);
        at("s 02", 4);
        at("s 12", 3);
        at("s 002", 3);
        at("s 020", 4);
        at("s 123", 3);
        at("s 1234", 3);
        at("s 200", 3);
        at("s 045", 4);
        at("s 2t", 3);
        at("s 2 2", 4);
        at("s 2;", 4);
        at("s 2 ; ", 6);
        at("s 2;;", 4);
        at("s 2;s 2", 4);
        at("s 2;T", 4);
        at("s 2;t5", 5);
        at("s 2;t 60 9 0 10", -1);
        at("s 2 ;  t  60  09  00  10  ", -1);
        at("s 2;t 61 9 0 10", 7);
        at("s 2;t 600 9 0 10", 8);
        at("s 2;t 610 9 0 10", 7);
        at("s 2;t 060 9 0 10", 8);
        at("s 2;t 5 100 0 10", 9);
        at("s 2;t 5 001 0 10", 9);
        at("s 2;t 5 091 0 10", 10);
        at("s 2;t 5 1 120", 11);
        at("s 2;t 5 1 110 0", 11);
        at("s 2;t 5 1 100 0", 12);
        at("s 2;t 5 1 010 0", 12);
        at("s 2;n 400", 7);
        at("s 2;n 041", 8);
        at("s 2;l 600", 8);
        at("s 2;l 610", 7);
        at("s 2;w 300", 7);
        at("s 2;w 020", 8);
        at("s 2;w 030", 7);
        at("s 2;t 5 0 5 5", 8);
        at("s 2;t 5 10 5 5", 9);
        at("s 2;t 5 1 11 0", 11);
        at("s 2;t 5 1 10 0", -1);
        at("s 2;t 5 1 10 1", 13);
        at("s 2;t 5 1 4 7", 12);
        at("s 2;t 5 1 4 5", 12);
        at("s 2;t 5 1 4 06", -1);
        at("s 2;t 5 1 4 61", 13);
        at("s 2;t 5 1 4 600", 13);
        at("s 2;t 5 1 4 050", 13);
        at("s 2;t 5 1 4 060", 14);
        at("s 2;t 5 1 0 100", 14);
        at("s 2;t 5 1 4 070", 13);
        at("s 3;t 5 1 4 070 0", 13);
        at("s 3;t 5 1 4 050 0", 14);
        at("s 2;t 5 1 4", 11);
        at("s 2;t 5 1 4 ", 12);
        at("s 2;t 5 1 4;", 11);
        at("s 2;t 5 1 4 6 0", 14);
        at("s 3;t 5 1 4 7 0", 12);
        at("s 3;t 5 1 4 6 1", 14);
        at("s 3;t 5 1 4 6 0", -1);
        at("s 5;t 5 1 2 2 2 2 2", -1);
        at("s 2;n 0", 6);
        at("s 2;n 5", 6);
        at("s 2;n 4", 7);
        at("s 2;l 61", 7);
        at("s 2;l 60;w 3", 11);
        at("s 2;l 0;w 2;n 1;t 5 1 4 6", -1);
        at("s 2;t 5 1 4 6;l -1", 16);
        at("s 2;t 5 1 4 6\t", 13);
        at("s 2;t 5 1 4 6" + (char) 160, 13);
        String eight = "s 2" + ";t 5 1 4 6".repeat(8);
        at(eight, -1);
        at(eight + ";n 3 ; n 4", -1);
        at(eight + ";", 84);
        at(eight + "; t 5 1 4 6", 85);
        at(eight + " ".repeat(240 - 83), -1);
    }

    private static String made(Random r) {
        int signs = r.nextInt(12) == 0 ? r.nextInt(130) : 2 + r.nextInt(4);
        StringBuilder b = new StringBuilder(gap(r, 0)).append('s').append(gap(r, 1)).append(signs);
        int clauses = r.nextInt(r.nextInt(6) == 0 ? 13 : 4);
        for (int n = 0; n < clauses && b.length() < 210; n++) {
            b.append(gap(r, 0)).append(';').append(gap(r, 0));
            clause(r, b, Math.max(1, Math.min(5, signs)), clauses > 5);
        }
        b.append(gap(r, 0));
        for (int n = r.nextInt(4) - 1; n > 0 && b.length() > 0; n--) {
            spoil(r, b);
        }
        return b.length() > 240 ? b.substring(0, 240) : b.toString();
    }

    private static void clause(Random r, StringBuilder b, int signs, boolean truthsAlone) {
        if (!truthsAlone && r.nextInt(3) == 0) {
            b.append("nlw".charAt(r.nextInt(3))).append(gap(r, 1)).append(number(r, 3));
            return;
        }
        b.append('t').append(gap(r, 1)).append(number(r, 61)).append(gap(r, 1)).append(number(r, 10));
        int left = 10;
        for (int i = 0; i < signs; i++) {
            int many = i == signs - 1 ? left : r.nextInt(left + 1);
            left -= many;
            b.append(gap(r, 1)).append(r.nextInt(30) == 0 ? number(r, 11) : Integer.toString(many));
        }
    }

    private static String number(Random r, int below) {
        int v = r.nextInt(15) == 0 ? r.nextInt(200) : r.nextInt(Math.max(1, below));
        return (r.nextInt(10) == 0 ? "0" : "") + v;
    }

    private static String gap(Random r, int least) {
        return " ".repeat(r.nextInt(60) == 0 ? 0 : r.nextInt(5) == 0 ? least + r.nextInt(3) : least);
    }

    private static void spoil(Random r, StringBuilder b) {
        int at = r.nextInt(b.length());
        char c = "stnlw; 0123456789x".charAt(r.nextInt(18));
        switch (r.nextInt(4)) {
            case 0:
                b.setCharAt(at, c);
                break;
            case 1:
                b.insert(at, c);
                break;
            case 2:
                b.deleteCharAt(at);
                break;
            default:
                b.setLength(at);
                break;
        }
    }

    // ---- byte by byte: what may come is a list of bounds of the numbers that are still due

    static int slowFault(String text) {
        java.util.ArrayDeque<int[]> due = new java.util.ArrayDeque<>();
        int signs = -1;
        int truths = 0;
        int sum = 0;
        char state = 'f';
        String digits = "";
        for (int i = 0; i <= text.length(); i++) {
            char c = i < text.length() ? text.charAt(i) : 0;
            if (state == 'd') {
                boolean goesOn = c >= '0' && c <= '9';
                if (goesOn && digits.length() == 1) {
                    digits += c;
                    continue;
                }
                int v = Integer.parseInt(digits);
                int[] bounds = due.removeFirst();
                boolean seen = bounds.length == 3;
                if (v < bounds[0] || v > bounds[1] || seen && (sum + v > 10 || due.isEmpty() && sum + v != 10)) {
                    return i - 1;
                }
                if (goesOn) {
                    return i;
                }
                sum = seen ? sum + v : 0;
                signs = signs < 0 ? v : signs;
                state = due.isEmpty() ? ';' : 'b';
            }
            if (i == text.length()) {
                break;
            }
            if (state == 'b' || state == 'n') {
                if (c == ' ') {
                    state = 'n';
                } else if (state == 'n' && c >= '0' && c <= '9') {
                    digits = "" + c;
                    state = 'd';
                } else {
                    return i;
                }
                continue;
            }
            if (c == ' ') {
                continue;
            }
            if (state == ';' && c == ';') {
                state = 'l';
                continue;
            }
            if (state == 'f' && c == 's') {
                due.add(new int[] {2, 5});
            } else if (state == 'l' && c == 't' && truths < 8) {
                truths++;
                due.add(new int[] {0, 60});
                due.add(new int[] {1, 9});
                for (int n = 0; n < signs; n++) {
                    due.add(new int[] {0, 10, 0});
                }
            } else if (state == 'l' && "nlw".indexOf(c) >= 0) {
                due.add(c == 'n' ? new int[] {1, 4} : c == 'l' ? new int[] {0, 60} : new int[] {0, 2});
            } else {
                return i;
            }
            state = 'b';
        }
        return state == ';' && truths > 0 ? -1 : text.length();
    }
}
