/**
 * Promises 19 to 22 and Terms 4 and 5, boundary by boundary: each method stands for one sentence of the document (told
 * above it) that names a case too small, too large, empty, full or refused.
 */
public final class EdgesChoirTradeTest {
    private static final int[] NO_CHOIR = {-2, -1, 2, 3, Integer.MAX_VALUE, Integer.MIN_VALUE};

    public static void main(String[] args) {
        whatOfChoirs();
        noneSuch();
        unlikeParts();
        aboveByStep();
        orderIsTheFirst();
        orderEdges();
        leastStepUpTo9();
        emptyChoir();
        oneVoice();
        nineVoices();
        fallOfHeights();
        theSecondChoir();
        tradeOfNothing();
        tradeOfStepsAlone();
        tradeOfFewSteps();
        tradeUpToC();
        tradeTakesTheLeast();
        tradeEdges();
        tradeAtItsMost();
        Check.finish();
    }

    private static DownhillSong with(String choir) {
        return Check.with(null, null, null, choir);
    }

    // 19: "10 + k, 20 + k: PART, HEIGHT of a VOICE. NONE: there is none such, or for another what."
    private static void whatOfChoirs() {
        StringBuilder text = new StringBuilder("step 7;");
        for (int voices = 0; voices <= 9; voices++) {
            DownhillSong x = with(text.toString());
            for (int what = -15; what < 60; what++) {
                if (what == 2 || what == 3) {
                    continue;
                }
                int k = Math.floorMod(what, 10);
                int want = what == 0 ? voices : what == 1 ? 7 : -1;
                if (what >= 10 && what < 30 && k < voices) {
                    want = what < 20 ? k % 4 : 9 - k;
                }
                Check.due("choir(0, " + what + ") of " + voices, x.choir(0, what), want);
            }
            Check.due("far", x.choir(0, Integer.MAX_VALUE), -1);
            Check.due("far", x.choir(0, Integer.MIN_VALUE), -1);
            text.append("voice ").append(voices % 4).append(' ').append(9 - voices).append(';');
        }
    }

    // 19 to 21: "NONE: there is none such"
    private static void noneSuch() {
        DownhillSong x = with("voice 0 0;");
        Check.told(x, 3, "voice 0 0;");
        for (int no : NO_CHOIR) {
            for (int what = 0; what < 30; what++) {
                Check.due("choir", x.choir(no, what), -1);
            }
            Check.due("orders", x.orders(no), -1);
            Check.due("order", x.order(no, 0), -1);
        }
        Check.due("choir 1, there", x.orders(1), 1);
        Check.due("choir 1, not yet", with("").orders(1), -1);
        Check.due("choir 1, not yet", with("").choir(1, 0), -1);
        Check.due("choir 1, not yet", with("voice 0 0;").order(1, 0), -1);
    }

    // Terms 4: "neighbours of unlike PARTS"
    private static void unlikeParts() {
        Check.due("like ones", with("voice 0 0;voice 0 0;step 9;").orders(0), 0);
        Check.due("unlike ones", with("voice 0 0;voice 3 0;step 9;").orders(0), 2);
        Check.due("one between", with("voice 2 0;voice 2 0;voice 1 0;").orders(0), 2);
        Check.due("two of each", with("voice 2 0;voice 2 0;voice 1 0;voice 1 0;").orders(0), 8);
        Check.due("three and one", with("voice 2 0;voice 2 0;voice 2 0;voice 1 0;").orders(0), 0);
        Check.due("four unlike ones", with("voice 0 0;voice 1 0;voice 2 0;voice 3 0;").orders(0), 24);
    }

    // Terms 4: "no HEIGHT above that of the one ahead by more than STEP"
    private static void aboveByStep() {
        for (int step = 0; step <= 9; step++) {
            for (int height = 0; height <= 9; height++) {
                DownhillSong x = with("voice 0 0;voice 1 " + height + ";step " + step + ";");
                boolean up = height <= step;
                Check.due("ORDERS, " + height + " by " + step, x.orders(0), up ? 2 : 1);
                Check.due("first, " + height + " by " + step, x.order(0, 0), up ? 0 : 1);
                Check.due("LEAST STEP", x.choir(0, 2), 0);
            }
        }
        Check.due("down as far as one likes", with("voice 0 9;voice 1 0;").orders(0), 1);
        Check.due("as high, by 0", with("voice 0 9;voice 1 9;").orders(0), 2);
    }

    // Terms 4, 21: "the first by numbers", "VOICE k of the first order"
    private static void orderIsTheFirst() {
        row("voice 0 5;voice 1 5;voice 2 5;", 0, 1, 2);
        row("voice 0 5;voice 0 5;voice 2 5;", 0, 2, 1);
        row("voice 0 0;voice 1 9;voice 2 5;", 1, 2, 0);
        row("voice 0 0;voice 1 9;voice 2 5;step 4;", 1, 2, 0);
        row("voice 0 0;voice 1 9;voice 2 5;step 5;", 0, 2, 1);
        row("voice 0 0;voice 1 9;voice 2 5;step 9;", 0, 1, 2);
        // The least VOICE comes first only if all others can follow.
        row("voice 0 1;voice 0 0;voice 1 9;voice 1 0;", 2, 0, 3, 1);
    }

    private static void row(String choir, int... want) {
        DownhillSong x = with(choir);
        for (int k = 0; k < want.length; k++) {
            Check.due("VOICE " + k + " of " + choir, x.order(0, k), want[k]);
        }
        Check.due("behind the last of " + choir, x.order(0, want.length), -1);
    }

    // 21: "NONE: there is none, or none such (of either)"
    private static void orderEdges() {
        DownhillSong x = with("voice 0 5;voice 1 5;");
        for (int k : new int[] {-1, 2, 3, 8, 9, Integer.MAX_VALUE, Integer.MIN_VALUE}) {
            Check.due("VOICE " + k, x.order(0, k), -1);
        }
        DownhillSong none = with("voice 1 5;voice 1 5;");
        for (int k = -1; k < 4; k++) {
            Check.due("there is no order", none.order(0, k), -1);
        }
        Check.due("ORDERS", none.orders(0), 0);
    }

    // Terms 4: "LEAST STEP, 0 .. 9, by which there is one", 19: "(NONE: by none)"
    private static void leastStepUpTo9() {
        for (int height = 0; height <= 9; height++) {
            // PART 1 is the one between; it must be come to from one of HEIGHT 0 or 9 - height.
            String choir = "voice 0 0;voice 1 " + height + ";voice 0 0;";
            for (int step = 0; step <= 9; step++) {
                DownhillSong x = with(choir + "step " + step + ";");
                Check.due("LEAST STEP to " + height, x.choir(0, 2), height);
                Check.due("ORDERS to " + height + " by " + step, x.orders(0), step >= height ? 2 : 0);
            }
        }
        Check.due("by none", with("voice 0 0;voice 0 9;").choir(0, 2), -1);
        Check.due("the greatest of the steps", with("voice 0 0;voice 1 4;voice 0 1;voice 1 9;voice 0 2;").choir(0, 2), 7);
    }

    // Terms 4: a CHOIR without VOICES has the row without VOICES
    private static void emptyChoir() {
        for (String text : new String[] {"", "step 9;"}) {
            DownhillSong x = with(text);
            Check.due("VOICES", x.choir(0, 0), 0);
            Check.due("ORDERS", x.orders(0), 1);
            Check.due("LEAST STEP", x.choir(0, 2), 0);
            Check.due("FALL", x.choir(0, 3), 0);
            Check.due("VOICE 0", x.order(0, 0), -1);
            Check.due("VOICE -1", x.order(0, -1), -1);
        }
    }

    private static void oneVoice() {
        DownhillSong x = with("voice 3 9;");
        Check.due("ORDERS", x.orders(0), 1);
        Check.due("LEAST STEP", x.choir(0, 2), 0);
        Check.due("FALL", x.choir(0, 3), 1);
        row("voice 3 9;", 0);
    }

    // Terms 1, 4: "VOICES, at most 9"
    private static void nineVoices() {
        String like = "voice 0 0;voice 1 0;voice 2 0;".repeat(3);
        Check.due("three of each of three PARTS", with(like).orders(0), 174 * 216);
        row(like, 0, 1, 2, 3, 4, 5, 6, 7, 8);
        StringBuilder up = new StringBuilder();
        for (int k = 0; k < 9; k++) {
            up.append("voice ").append(k % 2).append(' ').append(k + 1).append(';');
        }
        row(up.toString(), 8, 7, 6, 5, 4, 3, 2, 1, 0);
        row(up + "step 1;", 0, 1, 2, 3, 4, 5, 6, 7, 8);
        Check.due("one order alone", with(up.toString()).orders(0), 1);
        Check.due("FALL going up", with(up.toString()).choir(0, 3), 1);
        Check.due("none", with("voice 0 0;".repeat(9)).orders(0), 0);
        Check.due("none", with("voice 0 0;".repeat(9)).choir(0, 2), -1);
        Check.due("none", with("voice 0 0;".repeat(9)).order(0, 8), -1);
    }

    // Terms 4: "FALL: the most VOICES in a row of falling HEIGHTS, whatever PARTS."
    private static void fallOfHeights() {
        int[][] heights = {{5}, {5, 4}, {5, 5}, {4, 5}, {9, 8, 7, 6, 5, 4, 3, 2, 1}, {9, 9, 8, 8, 7}, {1, 9, 0, 8, 7, 6, 9}, {9, 5, 1, 2, 1, 0}};
        int[] want = {1, 2, 1, 1, 9, 2, 3, 3};
        for (int i = 0; i < heights.length; i++) {
            for (int part = 0; part < 4; part++) {
                StringBuilder text = new StringBuilder();
                for (int k = 0; k < heights[i].length; k++) {
                    text.append("voice ").append(part == 3 ? k % 4 : part).append(' ').append(heights[i][k]).append(';');
                }
                Check.due("FALL of " + text, with(text.toString()).choir(0, 3), want[i]);
            }
        }
    }

    // 19 to 21: of two CHOIRS each is asked on its own, in any order
    private static void theSecondChoir() {
        DownhillSong x = with("voice 0 0;voice 1 9;voice 0 0;voice 2 4;step 4;");
        Check.told(x, 3, "voice 0 5;voice 1 5;");
        for (int round = 0; round < 2; round++) {
            Check.due("ORDERS of 0", x.orders(0), with("voice 0 0;voice 1 9;voice 0 0;voice 2 4;step 4;").orders(0));
            Check.due("LEAST STEP of 0", x.choir(0, 2), 4);
            Check.due("ORDERS of 1", x.orders(1), 2);
            Check.due("VOICE 1 of 1", x.order(1, 1), 1);
            Check.due("VOICE 0 of 0", x.order(0, 0), 1);
            Check.due("VOICE 2 of 1", x.order(1, 2), -1);
        }
    }

    // Terms 5: "who can't loses"
    private static void tradeOfNothing() {
        DownhillSong x = new DownhillSong();
        for (int c = 1; c <= 9; c++) {
            for (int a = 0; a <= 60; a++) {
                Check.due("no steps", x.trade(a, 0, c, false), 0);
                Check.due("no steps", x.trade(a, 0, c, true), -1);
            }
            Check.due("no verse, 1 step", x.trade(0, 1, c, false), 0);
            Check.due("no verse, 1 step", x.trade(0, 1, c, true), -1);
        }
    }

    // Terms 5: "or 2 steps and no verse"
    private static void tradeOfStepsAlone() {
        DownhillSong x = new DownhillSong();
        for (int b = 0; b <= 60; b++) {
            boolean wins = b / 2 % 2 == 1;
            Check.due("steps " + b, x.trade(0, b, 9, false), wins ? 1 : 0);
            Check.due("steps " + b, x.trade(0, b, 9, true), wins ? 2 : -1);
        }
    }

    // Terms 5: "takes 1 verse and 1 to c steps": not more than there are
    private static void tradeOfFewSteps() {
        DownhillSong x = new DownhillSong();
        for (int c = 1; c <= 9; c++) {
            Check.due("1 verse, 1 step", x.trade(1, 1, c, true), 11);
            Check.due("9 verses, 1 step", x.trade(9, 1, c, true), 11);
            Check.due("60 verses, 1 step", x.trade(60, 1, c, false), 1);
        }
    }

    // Terms 5: "1 to c steps"
    private static void tradeUpToC() {
        DownhillSong x = new DownhillSong();
        // With one verse: he leaves no verse and a number of steps by which who is next loses (0, 1, 4, 5, 8, 9 ..).
        Check.due("1 verse, 4 steps, c 2", x.trade(1, 4, 2, true), -1);
        Check.due("1 verse, 4 steps, c 3", x.trade(1, 4, 3, true), 13);
        Check.due("1 verse, 4 steps, c 9", x.trade(1, 4, 9, true), 13);
        Check.due("1 verse, 3 steps, c 1", x.trade(1, 3, 1, true), -1);
        Check.due("1 verse, 3 steps, c 2", x.trade(1, 3, 2, true), 12);
    }

    // Terms 5: "of several that win the least"
    private static void tradeTakesTheLeast() {
        DownhillSong x = new DownhillSong();
        Check.due("2 steps, or a verse and one or two", x.trade(1, 2, 9, true), 2);
        Check.due("a verse and one step, or two", x.trade(1, 6, 9, true), 11);
        Check.due("2 steps, or a verse and one", x.trade(1, 5, 1, true), 2);
        int[][] loses = losing(9);
        for (int a = 0; a <= 60; a++) {
            for (int b = 0; b <= 60; b++) {
                int want = -1;
                for (int s = 9; s >= 1; s--) {
                    want = a > 0 && s <= b && loses[a - 1][b - s] == 1 ? 10 + s : want;
                }
                want = b >= 2 && loses[a][b - 2] == 1 ? 2 : want;
                Check.due("take of " + a + " " + b, x.trade(a, b, 9, true), want);
            }
        }
    }

    private static int[][] losing(int c) {
        int[][] loses = new int[61][61];
        for (int sum = 0; sum <= 120; sum++) {
            for (int a = Math.max(0, sum - 60); a <= Math.min(60, sum); a++) {
                int b = sum - a;
                boolean wins = b >= 2 && loses[a][b - 2] == 1;
                for (int s = 1; s <= c && s <= b && a > 0; s++) {
                    wins |= loses[a - 1][b - s] == 1;
                }
                loses[a][b] = wins ? 0 : 1;
            }
        }
        return loses;
    }

    // 22: "TRADE of a, b, 0 .. 60 each, c, 1 .. 9 .. -2: other numbers"
    private static void tradeEdges() {
        DownhillSong x = new DownhillSong();
        int[] edges = {Integer.MIN_VALUE, -1, 0, 1, 9, 10, 60, 61, Integer.MAX_VALUE};
        for (int a : edges) {
            for (int b : edges) {
                for (int c : edges) {
                    boolean fine = a >= 0 && a <= 60 && b >= 0 && b <= 60 && c >= 1 && c <= 9;
                    Check.due("trade " + a + " " + b + " " + c, x.trade(a, b, c, false) == -2, !fine);
                    Check.due("trade " + a + " " + b + " " + c, x.trade(a, b, c, true) == -2, !fine);
                }
            }
        }
    }

    // 22: all of them, for each c, in any order
    private static void tradeAtItsMost() {
        DownhillSong x = new DownhillSong();
        for (int c = 9; c >= 1; c--) {
            int[][] loses = losing(c);
            for (int a = 60; a >= 0; a -= 3) {
                for (int b = 60; b >= 0; b -= 1) {
                    Check.due("WINS " + a + " " + b + " " + c, x.trade(a, b, c, false), 1 - loses[a][b]);
                }
            }
        }
    }
}
