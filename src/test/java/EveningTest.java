/** Promises 9, 10, 23, 24, 31: what becomes of an EVENING. */
public final class EveningTest {
    static final String LAND = "hut 50;hut 40;hut 30;hut 20;hut 45;way 0 1 2;way 1 2 3;way 2 3 1;way 0 4 4;way 4 2 2;"
        + "way 1 3 9;village 3;village 2;echo 3 4;ladder 2 9;deep 1;slide 5;singer 0 2;singer 1 1;singer 2 0;singer 4 3;"
        + "knows 0 0;knows 1 1;knows 3 0;";
    private static final String EVENING = "begin 0 0;walk 0 1;sing 0 0;begin 1 1;walk 1 2;sing 1 1;whistle 0 0;"
        + "climb 2;sing 3 0;";

    public static void main(String[] args) {
        wholeEvening();
        wrongArguments();
        whatCannotBe();
        damsAreMute();
        echoesAreHeard();
        avalanches();
        laddersLift();
        snowCutsOff();
        doneFor();
        odds();
        drawn();
        teach();
        Check.finish();
    }

    private static DownhillSong with(String land, String evening) {
        DownhillSong x = new DownhillSong();
        Check.told(x, Check.LAND, land);
        Check.told(x, Check.EVENING, evening);
        return x;
    }

    private static void stops(String land, String evening, int at) {
        Check.due("STOP of " + evening, with(land, evening).stop(0, 0), at);
    }

    private static void states(DownhillSong x, int n, int from, int... want) {
        for (int k = 0; k < want.length; k++) {
            Check.due("state(0, 0, " + n + ", " + (from + k) + ")", x.state(0, 0, n, from + k), want[k]);
        }
    }

    private static void wholeEvening() {
        DownhillSong x = with(LAND, EVENING);
        Check.due("STOP", x.stop(0, 0), 9);
        states(x, 0, 0, 0, 0, 15, 0, 0, -1000);
        states(x, 0, 10, -1, -1, -1, -1, -1, -1000);
        states(x, 0, 20, 2, 1, 0, 0, 0, -1000);
        states(x, 0, 30, 0, 1, 2, 4, -1000);
        states(x, 0, 40, 1, 2, 0, 1, -1000);
        states(x, 0, 60, 48, 39, 30, 42, -1000);
        states(x, 1, 0, 0, 0, 9, 1, 0);
        states(x, 2, 0, 2, 0, 9, 1, 0);
        states(x, 2, 30, 1, 1, 2, 4);
        states(x, 3, 0, 2, 0, 11, 1, 0);
        states(x, 3, 10, 38, -1);
        states(x, 3, 40, 1, 3, 0, 1);
        states(x, 4, 0, 2, 0, 3, 3, 0);
        states(x, 4, 10, 38, 39);
        states(x, 8, 50, 0, 0, 1, 0, -1000);
        states(x, 8, 60, 38, 29, 39, 42, -1000);
        states(x, 9, 0, 5, 1, 3, 3, 0, -1000);
        states(x, 9, 10, 42, 29, -1, -1, -1, -1000);
        states(x, 9, 20, 3, 3, 0, 0, 0, -1000);
        states(x, 9, 30, 1, 2, 2, 4, -1000);
        states(x, 9, 40, 3, 3, 2, 1, -1000);
        states(x, 9, 70, 0, 0, 0, 0, 1, -1000);
        states(x, 9, 75, -1000, -1000, -1000, -1000, -1000, -1000);
        states(x, 10, 0, -1000);
        states(x, -1, 0, -1000);
        Check.due("ODDS N", x.odds(0, 0, 0), 1);
        Check.due("ODDS D", x.odds(0, 0, 1), 2);
        Check.due("EXPECTED", x.odds(0, 0, 2), 5);
        Check.due("TEACH 0", x.teach(0, 0, 9, 0), 1);
        Check.due("TEACH 1", x.teach(0, 0, 9, 1), -1);
    }

    private static void wrongArguments() {
        DownhillSong x = with(LAND, EVENING);
        for (int no : new int[] {-2, -1, 1, 2, Integer.MAX_VALUE, Integer.MIN_VALUE}) {
            Check.due("stop(no LAND)", x.stop(no, 0), -1);
            Check.due("stop(no EVENING)", x.stop(0, no), -1);
            Check.due("state(no LAND)", x.state(no, 0, 0, 0), -1000);
            Check.due("state(no EVENING)", x.state(0, no, 0, 0), -1000);
            Check.due("odds(no LAND)", x.odds(no, 0, 0), -1);
            Check.due("odds(no EVENING)", x.odds(0, no, 0), -1);
            Check.due("teach(no LAND)", x.teach(no, 0, 0, 0), -1);
            Check.due("teach(no EVENING)", x.teach(0, no, 0, 0), -1);
            Check.due("drawn(no LAND)", x.drawn(no, 0, 0, 0), -1000);
        }
        for (int what : new int[] {-1, -11, 80, 90, Integer.MAX_VALUE, Integer.MIN_VALUE}) {
            Check.due("state what " + what, x.state(0, 0, 0, what), -1000);
            Check.due("drawn what " + what, x.drawn(0, 0, 0, what), -1000);
            Check.due("odds what " + what, x.odds(0, 0, what), -1);
            Check.due("teach song " + what, x.teach(0, 0, 0, what), -1);
            Check.due("teach n " + what, x.teach(0, 0, what, 0), -1);
        }
        Check.due("odds what 3", x.odds(0, 0, 3), -1);
        Check.due("teach song 5", x.teach(0, 0, 0, 5), -1);
        Check.due("teach n 10", x.teach(0, 0, 10, 0), -1);
    }

    private static void whatCannotBe() {
        String land = "hut 50;hut 40;hut 30;way 0 1 2;ladder 0 5;singer 0 0;singer 0 1;knows 0 0;knows 0 1;";
        stops(land, "begin 2 0;", 0);
        stops(land, "begin 1 0;", 0);
        stops(land, "begin 0 0;begin 0 0;", 1);
        stops(land, "begin 0 0;begin 1 0;", 1);
        stops(land, "sing 0 0;", 0);
        stops(land, "whistle 0 0;", 0);
        stops(land, "begin 0 0;sing 1 0;whistle 1 0;", 3);
        stops(land, "begin 0 1;sing 0 0;", 1);
        stops(land, "walk 0 0;", 0);
        stops(land, "walk 0 1;walk 0 1;", 1);
        stops(land, "walk 0 1;walk 0 0;", 2);
        stops(land, "walk 0 2;", 0);
        stops(land, "walk 0 3;", 0);
        stops(land, "walk 0 8;", 0);
        stops(land, "walk 2 1;", 0);
        stops(land, "climb 0;climb 0;", 1);
        stops(land, "climb 0;climb 1;descend 0;descend 1;descend 1;", 4);
        stops(land, "descend 0;", 0);
        stops(land, "climb 0;walk 0 1;", 1);
        stops(land, "climb 0;descend 0;walk 0 1;climb 0;", 3);
        stops(land, "climb 2;", 0);
        stops(land, "descend 2;", 0);
        // What comes behind STOP is not asked.
        stops(land, "walk 0 2;walk 0 1;", 0);
    }

    private static void damsAreMute() {
        String land = "hut 9;hut 5;way 0 1 1;dam 1;echo 0 1;singer 0 0;singer 1 0;knows 0 4;knows 1 3;";
        DownhillSong x = with(land, "begin 0 4;walk 0 1;sing 0 4;");
        Check.due("STOP", x.stop(0, 0), 2);
        states(x, 1, 40, 16, 8);
        states(x, 2, 30, 1, 1);
        states(x, 2, 40, 16, 8);
        stops(land, "begin 1 3;", 0);
        stops(land, "begin 0 4;walk 0 1;whistle 0 4;", 2);
        stops(land, "walk 1 0;begin 1 3;", 2);
    }

    private static void echoesAreHeard() {
        String land = "hut 9;hut 5;hut 7;hut 8;echo 0 1;echo 1 2;echo 3 0;singer 0 0;singer 1 0;singer 2 0;singer 3 0;"
            + "singer 0 4;knows 0 0;knows 0 1;";
        DownhillSong x = with(land, "begin 0 0;begin 0 1;whistle 1 1;");
        states(x, 1, 40, 3, 1, 0, 0, 1);
        states(x, 3, 40, 3, 3, 2, 0, 3);
        states(x, 3, 20, 3, 4, 0);
    }

    private static void avalanches() {
        String land = "hut 50;hut 40;hut 50;way 0 1 2;way 1 2 1;deep 9;singer 0 0;singer 0 1;singer 2 0;knows 0 0;knows 2 0;";
        DownhillSong x = with(land, "begin 0 0;whistle 0 0;sing 0 0;sing 1 0;whistle 2 0;whistle 2 0;sing 2 0;sing 1 0;");
        int[] want = {0, 0, 0, 1, 1, 2, 2, 3, 3};
        int[] level = {-1, 50, 50, 50, 49, 50, 50, 50, 49};
        for (int n = 0; n <= 8; n++) {
            states(x, n, 1, want[n]);
            states(x, n, 10, level[n]);
        }
        states(x, 8, 70, 1, 0, 2);
        Check.due("LEVEL below 0", with("hut 3;singer 0 9;knows 0 0;", "begin 0 0;").state(0, 0, 1, 10), -6);
    }

    private static void laddersLift() {
        String land = "hut 50;ladder 0 9;singer 0 3;singer 0 0;knows 0 0;";
        DownhillSong x = with(land, "climb 0;begin 0 0;descend 0;sing 0 0;climb 1;whistle 1 0;");
        states(x, 1, 60, 56, 50);
        states(x, 2, 10, 56);
        states(x, 3, 60, 47, 50);
        states(x, 4, 1, 0);
        states(x, 4, 10, 47);
        states(x, 5, 60, 47, 59);
        states(x, 6, 1, 1);
        states(x, 6, 50, 0, 1);
    }

    private static void snowCutsOff() {
        String land = "hut 50;hut 40;way 0 1 2;ladder 0 1;singer 0 0;singer 1 0;knows 0 0;";
        stops(land, "begin 0 0;sing 0 0;walk 0 1;", 3);
        stops(land, "begin 0 0;sing 0 0;sing 0 0;walk 0 1;", 3);
        stops(land, "begin 0 0;sing 0 0;sing 0 0;walk 1 0;", 3);
        stops(land, "begin 0 0;sing 0 0;sing 0 0;sing 0 0;climb 0;whistle 0 0;", 6);
        stops("deep 1;" + land, "begin 0 0;sing 0 0;walk 0 1;", 2);
    }

    private static void doneFor() {
        String land = "hut 50;hut 40;hut 30;way 0 1 2;way 1 2 2;deep 1;singer 0 0;singer 1 0;singer 2 0;knows 0 0;knows 2 1;"
            + "knows 2 2;";
        DownhillSong x = with(land, "begin 0 0;begin 2 1;sing 0 0;sing 2 1;");
        states(x, 1, 4, 0);
        states(x, 2, 4, 2);
        states(x, 3, 4, 3);
        states(x, 4, 3, 3, 3);
        // Only a HUT that is no DAM counts, but he can walk through one.
        states(with("dam 1;" + land, "begin 0 0;"), 1, 4, 0);
        states(with("dam 2;dam 1;" + land, "begin 0 0;"), 1, 4, 1);
        // His own HUT counts at once, cut off or not: down from the LADDER he is low enough.
        states(with("hut 50;ladder 0 5;deep 1;singer 0 0;knows 0 0;", "climb 0;begin 0 0;sing 0 0;"), 3, 3, 1, 0);
        // Another who KNOWS it, and is taller, may do.
        states(with("hut 50;hut 9;singer 0 1;singer 0 2;knows 0 0;", "begin 0 0;"), 1, 4, 0);
        states(with("hut 50;hut 9;singer 0 1;singer 0 1;knows 0 0;", "begin 0 0;"), 1, 4, 1);
    }

    private static void odds() {
        String land = "hut 50;singer 0 0;knows 0 0;deep 9;";
        long[] n = {0, 1, 1, 3, 2, 1, 3, 7, 4, 9, 1};
        long[] d = {1, 10, 5, 10, 5, 2, 5, 10, 5, 10, 1};
        for (int slide = 0; slide <= 10; slide++) {
            for (int many : new int[] {0, 1, 2, 18, 19, 39}) {
                DownhillSong x = with(land + "slide " + slide + ";", "begin 0 0;" + "sing 0 0;".repeat(many));
                Check.due("STOP", x.stop(0, 0), many + 1);
                Check.due("N " + slide + " " + many, x.odds(0, 0, 0), many > 18 ? -1 : power(n[slide], many));
                Check.due("D " + slide + " " + many, x.odds(0, 0, 1), many > 18 ? -1 : power(d[slide], many));
                Check.due("EXPECTED " + slide, x.odds(0, 0, 2), many * (10 - slide));
            }
        }
        DownhillSong x = with(land, "begin 0 0;sing 0 0;walk 0 1;sing 0 0;");
        Check.due("up to STOP", x.odds(0, 0, 2), 5);
    }

    private static long power(long base, int times) {
        return java.math.BigInteger.valueOf(base).pow(times).longValueExact();
    }

    private static void drawn() {
        DownhillSong x = new DownhillSong();
        Check.told(x, Check.LAND, "hut 50;hut 40;way 0 1 3;singer 0 0;knows 0 0;knows 0 1;knows 0 2;knows 0 3;knows 0 4;");
        Check.told(x, Check.LAND, "hut 50;");
        Check.due("no SINGERS", x.drawn(1, 0, 0, 0), -1000);
        Check.due("n 61", x.drawn(0, 0, 61, 0), -1000);
        Check.due("n -1", x.drawn(0, 0, -1, 0), -1000);
        Check.due("what 79", x.drawn(0, 0, 0, 79), -1000);
        for (int seed : new int[] {0, 1, 7, -5, 123456789, Integer.MIN_VALUE, Integer.MAX_VALUE}) {
            byHand(x, seed);
        }
    }

    /** One SINGER, two HUTS, all SONGS known: what he does can be told by a few lines. */
    private static void byHand(DownhillSong x, int seed) {
        int seedNow = seed;
        int hut = 0;
        int minute = 0;
        int begun = 0;
        int[] snow = new int[2];
        int[] level = {-1, -1, -1, -1, -1};
        for (int n = 0; n <= 60; n++) {
            String at = "drawn " + seed + " " + n;
            Check.due(at + " minute", x.drawn(0, seed, n, 0), minute);
            Check.due(at + " HUT", x.drawn(0, seed, n, 30), hut);
            Check.due(at + " begun", x.drawn(0, seed, n, 3), begun);
            Check.due(at + " SNOW 0", x.drawn(0, seed, n, 70), snow[0]);
            Check.due(at + " SNOW 1", x.drawn(0, seed, n, 71), snow[1]);
            Check.due(at + " AVALANCHES", x.drawn(0, seed, n, 1), snow[0] + snow[1]);
            int[] draws = new int[3];
            for (int i = 0; i < 3; i++) {
                seedNow = seedNow * 1103515245 + 12345;
                draws[i] = seedNow >>> 16;
            }
            if (draws[1] % 8 < 3) {
                if (draws[2] % 2 != hut && snow[0] < 2 && snow[1] < 2) {
                    hut = draws[2] % 2;
                    minute += 3;
                }
            } else {
                int song = draws[2] % 5;
                int high = hut == 0 ? 50 : 40;
                if ((begun >> song & 1) == 1 && high >= level[song]) {
                    snow[hut]++;
                }
                begun |= 1 << song;
                level[song] = high;
            }
        }
    }

    private static void teach() {
        String land = "hut 50;hut 40;hut 30;hut 45;echo 0 1;echo 1 2;singer 0 0;singer 1 0;singer 2 0;knows 0 0;"
            + "knows 0 1;knows 1 1;knows 2 1;knows 1 2;";
        DownhillSong x = with(land, "begin 0 0;sing 1 0;");
        Check.due("begun and sung on", x.teach(0, 0, 0, 0), 2);
        Check.due("sung on", x.teach(0, 0, 1, 0), 1);
        Check.due("all KNOW it", x.teach(0, 0, 2, 0), 0);
        Check.due("all KNOW it at first", x.teach(0, 0, 0, 1), 0);
        Check.due("not uphill to HUT 0", x.teach(0, 0, 0, 2), -1);
        Check.due("known by none", x.teach(0, 0, 0, 3), -1);
        // A WRONG one is not sung: SINGER 1 on the way is as HIGH as SINGER 0.
        Check.due("as HIGH", with(land.replace("hut 40", "hut 50"), "").teach(0, 0, 0, 0), -1);
        Check.due("LADDER", with(land + "ladder 1 9;", "climb 1;").teach(0, 0, 1, 0), 2);
        Check.due("LADDER too high", with(land.replace("hut 40", "hut 41") + "ladder 1 9;", "climb 1;").teach(0, 0, 1, 0), -1);
        Check.due("from a DAM", with(land + "dam 1;", "").teach(0, 0, 0, 0), -1);
        Check.due("none in HUT 3", with(land + "singer 3 0;", "").teach(0, 0, 0, 0), -1);
    }
}
