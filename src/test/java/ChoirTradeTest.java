/** Promises 19 to 22: CHOIRS and TRADES. */
public final class ChoirTradeTest {
    public static void main(String[] args) {
        smallChoir();
        choirs();
        emptyChoir();
        fullChoir();
        falls();
        noneSuch();
        trades();
        Check.finish();
    }

    private static DownhillSong with(String choir) {
        DownhillSong x = new DownhillSong();
        Check.told(x, Check.CHOIR, choir);
        return x;
    }

    private static void row(DownhillSong x, int... want) {
        for (int k = 0; k < want.length; k++) {
            Check.due("VOICE " + k, x.order(0, k), want[k]);
        }
        Check.due("VOICE behind", x.order(0, want.length), -1);
        Check.due("VOICE ahead", x.order(0, -1), -1);
    }

    private static void smallChoir() {
        DownhillSong x = with("voice 0 5;voice 1 6;voice 0 4;step 1;");
        int[] want = {3, 1, 1, 2, -1};
        for (int what = 0; what < want.length; what++) {
            Check.due("choir(0, " + what + ")", x.choir(0, what), want[what]);
        }
        Check.due("ORDERS", x.orders(0), 1);
        row(x, 0, 1, 2);
        int[] parts = {0, 1, 0, -1};
        int[] heights = {5, 6, 4, -1};
        for (int k = 0; k < 4; k++) {
            Check.due("PART " + k, x.choir(0, 10 + k), parts[k]);
            Check.due("HEIGHT " + k, x.choir(0, 20 + k), heights[k]);
        }
        for (int what : new int[] {-1, 9, 19, 29, 30, Integer.MAX_VALUE, Integer.MIN_VALUE}) {
            Check.due("choir(0, " + what + ")", x.choir(0, what), -1);
        }
    }

    private static void choirs() {
        DownhillSong x = with("voice 0 5;voice 1 9;step 3;");
        Check.due("only down", x.orders(0), 1);
        row(x, 1, 0);
        Check.due("LEAST STEP", x.choir(0, 2), 0);
        DownhillSong both = with("voice 0 5;voice 1 9;step 3;step 4;");
        Check.due("the later STEP", both.choir(0, 1), 4);
        Check.due("up and down", both.orders(0), 2);
        row(both, 0, 1);
        DownhillSong none = with("voice 0 5;voice 0 5;step 9;");
        Check.due("like PARTS", none.orders(0), 0);
        Check.due("none", none.order(0, 0), -1);
        Check.due("LEAST STEP by none", none.choir(0, 2), -1);
        Check.due("FALL", none.choir(0, 3), 1);
        DownhillSong one = with("voice 3 9;");
        Check.due("one", one.orders(0), 1);
        Check.due("LEAST STEP of one", one.choir(0, 2), 0);
        row(one, 0);
        DownhillSong later = with("voice 0 0;voice 0 9;voice 1 0;voice 1 9;");
        // Without a STEP the HEIGHTS must go 9 9 0 0, and the PARTS by turns.
        Check.due("ORDERS", later.orders(0), 2);
        row(later, 1, 3, 0, 2);
    }

    private static void emptyChoir() {
        DownhillSong x = with("step 4;");
        Check.due("VOICES", x.choir(0, 0), 0);
        Check.due("the empty row", x.orders(0), 1);
        Check.due("LEAST STEP", x.choir(0, 2), 0);
        Check.due("FALL", x.choir(0, 3), 0);
        Check.due("VOICE 0", x.order(0, 0), -1);
        Check.due("PART 0", x.choir(0, 10), -1);
    }

    private static void fullChoir() {
        DownhillSong x = with("voice 0 0;voice 1 0;voice 0 0;voice 1 0;voice 0 0;voice 1 0;voice 0 0;voice 1 0;voice 0 0;");
        Check.due("5! * 4!", x.orders(0), 2880);
        row(x, 0, 1, 2, 3, 4, 5, 6, 7, 8);
        Check.due("what 28", x.choir(0, 28), 0);
        Check.due("what 18", x.choir(0, 18), 0);
        DownhillSong too = with("voice 0 0;voice 1 0;voice 0 0;voice 0 0;voice 0 0;voice 1 0;voice 0 0;voice 1 0;voice 0 0;");
        Check.due("six of one PART", too.orders(0), 0);
        DownhillSong slope = with("voice 0 0;voice 1 1;voice 2 2;voice 3 3;voice 0 4;voice 1 5;voice 2 6;voice 3 7;voice 0 8;");
        Check.due("all the way down", slope.orders(0), 1);
        row(slope, 8, 7, 6, 5, 4, 3, 2, 1, 0);
    }

    private static void falls() {
        Check.due("falling", with("voice 0 9;voice 0 5;voice 0 1;").choir(0, 3), 3);
        Check.due("as high is no fall", with("voice 0 9;voice 0 9;voice 1 8;").choir(0, 3), 2);
        Check.due("in a row", with("voice 0 9;voice 0 3;voice 1 8;voice 1 7;voice 0 6;voice 1 9;").choir(0, 3), 3);
    }

    private static void noneSuch() {
        DownhillSong x = with("voice 0 5;");
        for (int no : new int[] {-2, -1, 1, 2, Integer.MAX_VALUE, Integer.MIN_VALUE}) {
            Check.due("choir", x.choir(no, 0), -1);
            Check.due("orders", x.orders(no), -1);
            Check.due("order", x.order(no, 0), -1);
        }
        Check.due("order k", x.order(0, Integer.MAX_VALUE), -1);
    }

    private static void trades() {
        DownhillSong x = new DownhillSong();
        Check.due("nothing", x.trade(0, 0, 1, false), 0);
        Check.due("nothing to take", x.trade(0, 0, 1, true), -1);
        Check.due("2 steps", x.trade(0, 2, 1, false), 1);
        Check.due("2 steps", x.trade(0, 2, 1, true), 2);
        Check.due("4 steps", x.trade(0, 4, 9, false), 0);
        Check.due("1 verse, 1 step", x.trade(1, 1, 1, true), 11);
        Check.due("1 verse, no step", x.trade(1, 0, 1, false), 0);
        Check.due("1 verse, 3 steps: 2 of them", x.trade(1, 3, 9, true), 12);
        Check.due("1 verse, 2 steps: without a verse", x.trade(1, 2, 9, true), 2);
        for (int a = 0; a <= 12; a++) {
            for (int b = 0; b <= 12; b++) {
                for (int c = 1; c <= 9; c++) {
                    int take = take(a, b, c);
                    Check.due("trade " + a + " " + b + " " + c, x.trade(a, b, c, true), take);
                    Check.due("wins " + a + " " + b + " " + c, x.trade(a, b, c, false), take == -1 ? 0 : 1);
                }
            }
        }
        int[][] others = {{-1, 0, 1}, {61, 0, 1}, {0, -1, 1}, {0, 61, 1}, {0, 0, 0}, {0, 0, 10}, {0, 0, -1}};
        for (int[] o : others) {
            Check.due("other numbers", x.trade(o[0], o[1], o[2], false), -2);
            Check.due("other numbers", x.trade(o[0], o[1], o[2], true), -2);
        }
        Check.due("the most", x.trade(60, 60, 9, false) >= 0, true);
    }

    private static final java.util.HashMap<Integer, Integer> TAKES = new java.util.HashMap<>();

    private static int take(int a, int b, int c) {
        int key = a * 1000 + b * 10 + c;
        Integer known = TAKES.get(key);
        if (known != null) {
            return known;
        }
        int best = -1;
        for (int number = 19; number >= 2; number--) {
            int verses = number / 10;
            int steps = number % 10;
            boolean may = verses == 0 ? steps == 2 : steps >= 1 && steps <= c;
            if (may && verses <= a && steps <= b && take(a - verses, b - steps, c) == -1) {
                best = number;
            }
        }
        TAKES.put(key, best);
        return best;
    }
}
