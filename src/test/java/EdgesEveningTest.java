/**
 * Promises 9, 10, 23, 24, 31 and Terms 2 and 5, boundary by boundary: each method stands for one sentence of the document
 * (told above it) that names a case too small, too large, empty, full, wrapping around or refused.
 */
public final class EdgesEveningTest {
    private static final int[] ODD = {-2, -1, 2, 3, Integer.MAX_VALUE, Integer.MIN_VALUE};
    /** 9 HUTS, 6 SINGERS: as full as may be. */
    private static final String FULL = "hut 90;hut 80;hut 70;hut 60;hut 50;hut 40;hut 30;hut 20;hut 9;way 0 1 9;way 1 2 9;way 2 3 9;"
        + "way 3 4 9;way 4 5 9;way 5 6 9;way 6 7 9;way 7 8 9;echo 8 0;ladder 8 9;deep 9;singer 8 9;singer 0 0;singer 7 1;singer 4 2;"
        + "singer 1 9;singer 8 0;knows 0 4;knows 5 0;knows 5 4;knows 1 1;knows 3 2;";

    public static void main(String[] args) {
        highOfASinger();
        eveningBegins();
        beginOnlyOnce();
        singAsHigh();
        whistleAsHigh();
        levelOfTheLast();
        avalancheLiesInHisHut();
        whoHearsIt();
        damsHearAndSingNothing();
        walkOnlyByWays();
        walkNotFromLadders();
        walkUpToDeep();
        laddersOfNoHeight();
        noSuchSinger();
        stopAtTheEnds();
        statesUpToStop();
        whatOfStates();
        noneSuch();
        theSecondOnes();
        doneForAsHigh();
        doneForByWays();
        doneForOnlyBegun();
        doneForOfEachState();
        fameAndSeers();
        oddsUpTo18();
        oddsInLeastTerms();
        oddsUpToStop();
        drawnNothing();
        drawnOnlyIfHeMay();
        drawnBeginsThenSings();
        drawnWrapsAround();
        drawnEdges();
        teachNothing();
        teachNever();
        teachFewest();
        teachEdges();
        Check.finish();
    }

    private static DownhillSong with(String land, String evening) {
        return Check.with(land, evening, null, null);
    }

    private static void stops(String land, String evening, int at) {
        Check.due("STOP of " + evening + " in " + land, with(land, evening).stop(0, 0), at);
    }

    private static void state(String land, String evening, int what, int want) {
        DownhillSong x = with(land, evening);
        int stop = x.stop(0, 0);
        Check.due("all of " + evening + " in " + land, stop, x.deed(0, -1, 0));
        Check.due("what " + what + " behind " + evening + " in " + land, x.state(0, 0, stop, what), want);
    }

    // Terms 2: "HIGH is a SINGER: HEIGHT of his HUT less TALL, and how high its LADDER is, if he is on it."
    private static void highOfASinger() {
        state("hut 0;singer 0 9;", "", 60, -9);
        state("hut 0;singer 0 9;ladder 0 9;", "", 60, -9);
        state("hut 0;singer 0 9;ladder 0 9;", "climb 0;", 60, 0);
        state("hut 99;singer 0 0;ladder 0 9;", "climb 0;", 60, 108);
        state("hut 99;singer 0 0;ladder 0 9;", "climb 0;descend 0;", 60, 99);
        state("hut 99;hut 5;way 0 1 1;singer 0 3;", "walk 0 1;", 60, 2);
    }

    // Terms 2: "begins at minute 0, each SINGER in his HUT, on no LADDER, no SONG begun, no SNOW"
    private static void eveningBegins() {
        DownhillSong x = with(FULL, "");
        int[] whole = {0, 0, 63, 0, 0};
        int[] homes = {8, 0, 7, 4, 1, 8};
        int[] known = {16, 2, 0, 4, 0, 17};
        for (int k = 0; k < 9; k++) {
            if (k < 5) {
                Check.due("whole " + k, x.state(0, 0, 0, k), whole[k]);
                Check.due("LEVEL " + k, x.state(0, 0, 0, 10 + k), -1);
            }
            if (k < 6) {
                Check.due("HUT " + k, x.state(0, 0, 0, 30 + k), homes[k]);
                Check.due("KNOWS " + k, x.state(0, 0, 0, 40 + k), known[k]);
                Check.due("LADDER " + k, x.state(0, 0, 0, 50 + k), 0);
            }
            Check.due("SNOW " + k, x.state(0, 0, 0, 70 + k), 0);
        }
    }

    // Terms 2: "begin: a SINGER who KNOWS a SONG that is not begun", "sing, whistle: one who KNOWS a SONG that is begun"
    private static void beginOnlyOnce() {
        String land = "hut 9;hut 8;singer 0 0;singer 1 0;knows 0 0;knows 0 4;knows 1 4;";
        stops(land, "begin 0 0;begin 0 0;", 1);
        stops(land, "begin 0 4;begin 1 4;", 1);
        stops(land, "begin 0 4;begin 0 0;", 2);
        stops(land, "begin 1 0;", 0);
        stops(land, "sing 0 4;", 0);
        stops(land, "whistle 0 4;", 0);
        stops(land, "begin 0 0;sing 0 4;", 1);
        stops(land, "begin 0 0;whistle 0 4;", 1);
        stops(land, "begin 0 0;sing 1 0;", 1);
        stops(land, "begin 0 0;whistle 1 0;", 1);
        stops(land, "begin 0 4;sing 1 4;whistle 0 4;", 3);
        stops(land, "begin 0 3;", 0);
    }

    // Terms 2: "It is WRONG to sing, if he is as HIGH as its LEVEL or higher"
    private static void singAsHigh() {
        for (int tall = 0; tall < 10; tall++) {
            String land = "hut 50;singer 0 5;singer 0 " + tall + ";knows 0 0;";
            state(land, "begin 0 0;sing 1 0;", 1, tall <= 5 ? 1 : 0);
            state(land, "begin 0 0;sing 1 0;", 10, 50 - tall);
        }
        state("hut 0;singer 0 9;knows 0 0;", "begin 0 0;sing 0 0;", 1, 1);
    }

    // Terms 2: "to whistle, if he is higher"
    private static void whistleAsHigh() {
        for (int tall = 0; tall < 10; tall++) {
            String land = "hut 50;singer 0 5;singer 0 " + tall + ";knows 0 0;";
            state(land, "begin 0 0;whistle 1 0;", 1, tall < 5 ? 1 : 0);
            state(land, "begin 0 0;whistle 1 0;", 10, 50 - tall);
        }
    }

    // Terms 2: "LEVEL of a SONG is how HIGH he was who began, sang or whistled it last." (WRONG or not; then, not now)
    private static void levelOfTheLast() {
        String land = "hut 50;hut 0;way 0 1 1;ladder 0 9;singer 0 0;singer 0 9;knows 0 0;knows 0 1;";
        state(land, "begin 0 0;", 10, 50);
        state(land, "begin 0 0;walk 0 1;", 10, 50);
        state(land, "begin 0 0;climb 0;", 10, 50);
        state(land, "begin 0 0;climb 0;sing 0 0;", 10, 59);
        state(land, "begin 0 0;sing 1 0;", 10, 41);
        state(land, "begin 0 0;sing 1 0;whistle 0 0;", 10, 50);
        state(land, "begin 0 0;walk 1 1;sing 0 0;", 10, 50);
        state(land, "begin 0 0;walk 1 1;whistle 1 0;", 10, -9);
        state(land, "begin 0 0;sing 1 0;", 11, -1);
        // A LEVEL of -1 is one as well.
        state("hut 0;singer 0 1;knows 0 0;", "begin 0 0;", 10, -1);
        state("hut 0;singer 0 1;knows 0 0;", "begin 0 0;", 3, 1);
    }

    // Terms 2: "there is an AVALANCHE then: SNOW of his HUT is 1 more"
    private static void avalancheLiesInHisHut() {
        String land = "hut 50;hut 50;hut 50;way 0 1 1;deep 9;echo 0 2;singer 0 0;singer 1 0;knows 0 0;knows 1 0;";
        DownhillSong x = with(land, "begin 0 0;sing 0 0;sing 1 0;sing 1 0;whistle 1 0;");
        int[][] snow = {{0, 0, 0}, {0, 0, 0}, {1, 0, 0}, {1, 1, 0}, {1, 2, 0}, {1, 2, 0}};
        for (int n = 0; n < snow.length; n++) {
            for (int h = 0; h < 3; h++) {
                Check.due("SNOW of " + h + " behind " + n, x.state(0, 0, n, 70 + h), snow[n][h]);
            }
            Check.due("AVALANCHES behind " + n, x.state(0, 0, n, 1), snow[n][0] + snow[n][1]);
        }
        // As many as an EVENING can have.
        state("hut 1;singer 0 0;knows 0 0;", "begin 0 0;" + "sing 0 0;".repeat(39), 70, 39);
    }

    // Terms 2: "All SINGERS in his HUT, and in HUTS to which an ECHO goes from it, KNOW it then"
    private static void whoHearsIt() {
        String land = "hut 9;hut 8;hut 7;hut 6;way 0 3 1;way 3 2 1;echo 0 1;echo 1 2;echo 3 0;ladder 0 1;singer 0 0;singer 0 1;singer 1 0;"
            + "singer 2 0;singer 3 0;knows 0 0;knows 0 4;";
        state(land, "begin 0 0;", 20, 3);
        for (int s = 1; s < 5; s++) {
            state(land, "begin 0 0;", 40 + s, s <= 2 ? 1 : 0);
            state(land, "begin 0 0;sing 2 0;", 40 + s, s <= 3 ? 1 : 0);
            state(land, "begin 0 4;whistle 2 4;", 40 + s, s <= 3 ? 16 : 0);
            state(land, "climb 1;begin 0 0;", 40 + s, s <= 2 ? 1 : 0);
        }
        state(land, "walk 1 3;begin 0 0;", 41, 0);
        state(land, "walk 1 3;begin 0 0;walk 1 0;", 41, 0);
        state(land, "walk 1 3;begin 0 0;walk 1 0;sing 0 0;", 41, 1);
        state(land, "walk 0 3;begin 0 0;", 41, 1);
        state(land, "walk 0 3;begin 0 0;", 44, 1);
        state(land, "walk 0 3;begin 0 0;", 42, 0);
    }

    // Terms 2: "(not those in a HUT that is a DAM). None of these can be in a HUT that is a DAM."
    private static void damsHearAndSingNothing() {
        String land = "hut 9;hut 8;way 0 1 1;dam 1;echo 0 1;echo 1 0;ladder 1 2;singer 0 0;singer 1 0;knows 0 0;knows 1 1;";
        state(land, "begin 0 0;", 41, 2);
        state(land, "begin 0 0;sing 0 0;whistle 0 0;", 41, 2);
        stops(land, "begin 1 1;", 0);
        stops(land, "begin 0 0;walk 0 1;sing 0 0;", 2);
        stops(land, "begin 0 0;walk 0 1;whistle 0 0;", 2);
        stops(land, "climb 1;descend 1;walk 1 0;begin 1 1;", 4);
        state(land, "walk 1 0;begin 1 1;", 40, 3);
    }

    // Terms 2: "walk: by a WAY .. its MINUTES pass"; "A DEED can't be, if there is no such SINGER, HUT"
    private static void walkOnlyByWays() {
        String land = "hut 9;hut 8;hut 9;way 0 1 1;way 1 2 9;dam 1;singer 0 0;";
        stops(land, "walk 0 0;", 0);
        stops(land, "walk 0 2;", 0);
        for (int hut = 3; hut < 9; hut++) {
            stops(land, "walk 0 " + hut + ";", 0);
        }
        state(land, "walk 0 1;", 0, 1);
        state(land, "walk 0 1;walk 0 2;", 0, 10);
        state(land, "walk 0 1;walk 0 2;walk 0 1;walk 0 0;", 0, 20);
        state(land, "walk 0 1;walk 0 2;", 30, 2);
        state("hut 1;hut 1;way 0 1 9;singer 0 0;", "walk 0 1;walk 0 0;".repeat(20), 0, 360);
    }

    // Terms 2: "he being on no LADDER"; "climb: a LADDER is there, and he is not on it; descend: he is on it"
    private static void walkNotFromLadders() {
        String land = "hut 9;hut 8;way 0 1 1;ladder 0 1;singer 0 0;singer 0 0;";
        stops(land, "climb 0;walk 0 1;", 1);
        stops(land, "climb 0;walk 1 1;", 2);
        stops(land, "climb 0;descend 0;walk 0 1;", 3);
        stops(land, "climb 0;climb 0;", 1);
        stops(land, "climb 0;climb 1;", 2);
        stops(land, "climb 0;descend 1;", 1);
        stops(land, "descend 0;", 0);
        stops(land, "climb 0;descend 0;descend 0;", 2);
        stops(land, "climb 0;descend 0;climb 0;descend 0;", 4);
        stops(land, "walk 0 1;climb 0;", 1);
    }

    // Terms 2: "neither HUT being CUT off (SNOW is DEEP or more)"
    private static void walkUpToDeep() {
        for (int deep = 1; deep <= 9; deep++) {
            String land = "hut 9;hut 8;hut 7;way 0 1 1;way 1 2 1;ladder 0 1;deep " + deep + ";singer 0 0;singer 1 0;knows 0 0;";
            for (int snow = 0; snow <= 10; snow++) {
                String evening = "begin 0 0;" + "sing 0 0;".repeat(snow);
                int open = snow < deep ? 1 : 0;
                stops(land, evening + "walk 0 1;", 1 + snow + open);
                stops(land, evening + "walk 1 0;", 1 + snow + open);
                stops(land, evening + "walk 1 2;climb 0;descend 0;", 4 + snow);
            }
        }
        stops("hut 9;hut 8;way 0 1 1;singer 0 0;knows 0 0;", "begin 0 0;sing 0 0;walk 0 1;walk 0 0;", 4);
    }

    // Terms 1, 2: "LADDERS of HUTS, 0 .. 9 (0 at first: none)", "climb: a LADDER is there"
    private static void laddersOfNoHeight() {
        stops("hut 9;singer 0 0;", "climb 0;", 0);
        stops("hut 9;singer 0 0;ladder 0 0;", "climb 0;", 0);
        stops("hut 9;singer 0 0;ladder 0 9;ladder 0 0;", "climb 0;", 0);
        stops("hut 9;singer 0 0;ladder 0 1;", "climb 0;", 1);
        stops("hut 9;hut 9;singer 0 0;ladder 1 9;", "climb 0;", 0);
    }

    // Terms 2: "A DEED can't be, if there is no such SINGER"
    private static void noSuchSinger() {
        for (String deed : new String[] {"begin S 0;", "sing S 0;", "whistle S 0;", "walk S 1;", "climb S;", "descend S;"}) {
            for (int singers = 0; singers < 6; singers++) {
                StringBuilder land = new StringBuilder("hut 9;hut 8;way 0 1 1;ladder 0 1;" + "singer 0 0;".repeat(singers));
                stops(land.toString(), deed.replace("S", Integer.toString(singers)), 0);
                stops(land.toString(), deed.replace("S", "5"), 0);
            }
        }
        stops("hut 9;hut 8;way 0 1 1;" + "singer 0 0;".repeat(6), "walk 5 1;", 1);
    }

    // Terms 2, 9: "STOP: the first DEED that can't be, else how many there are."
    private static void stopAtTheEnds() {
        String land = "hut 9;ladder 0 1;singer 0 0;";
        stops(land, "", 0);
        stops("", "", 0);
        stops("", "climb 0;", 0);
        stops(land, "descend 0;climb 0;", 0);
        stops(land, "climb 0;descend 0;".repeat(20), 40);
        stops(land, "climb 0;descend 0;".repeat(19) + "climb 0;climb 0;", 39);
        stops(land, "climb 0;climb 0;descend 0;climb 0;", 1);
    }

    // Terms 2, 10: "A STATE is behind the first n DEEDS, n up to STOP." "-1000: there is no such STATE"
    private static void statesUpToStop() {
        DownhillSong x = with("hut 9;ladder 0 1;singer 0 0;", "climb 0;descend 0;descend 0;climb 0;");
        int[] ladder = {0, 1, 0};
        for (int n = -2; n < 7; n++) {
            Check.due("n " + n, x.state(0, 0, n, 50), n >= 0 && n <= 2 ? ladder[n] : -1000);
        }
        Check.due("far", x.state(0, 0, Integer.MAX_VALUE, 50), -1000);
        Check.due("far", x.state(0, 0, Integer.MIN_VALUE, 50), -1000);
        DownhillSong all = with("hut 9;ladder 0 1;singer 0 0;", "climb 0;descend 0;".repeat(20));
        Check.due("behind 40", all.state(0, 0, 40, 50), 0);
        Check.due("behind 39", all.state(0, 0, 39, 50), 1);
        Check.due("behind 41", all.state(0, 0, 41, 50), -1000);
        Check.due("of nothing", with("", "").state(0, 0, 0, 0), 0);
        Check.due("of nothing", with("", "").state(0, 0, 1, 0), -1000);
    }

    // 10: "or for another what": each what of a full LAND, of a small one, of an empty one
    private static void whatOfStates() {
        String[] lands = {FULL, "hut 9;singer 0 0;", ""};
        int[][] sizes = {{9, 6}, {1, 1}, {0, 0}};
        for (int i = 0; i < lands.length; i++) {
            DownhillSong x = with(lands[i], "");
            for (int what = -30; what < 130; what++) {
                int k = Math.floorMod(what, 10);
                int tens = Math.floorDiv(what, 10);
                int most = tens < 0 || tens > 7 ? 0 : tens < 3 ? 5 : tens < 7 ? sizes[i][1] : sizes[i][0];
                Check.due("what " + what + " of " + lands[i], x.state(0, 0, 0, what) != -1000, k < most);
                Check.due("drawn what " + what + " of " + lands[i], x.drawn(0, 1, 0, what) != -1000, k < most && sizes[i][1] > 0);
            }
            Check.due("far", x.state(0, 0, 0, Integer.MAX_VALUE), -1000);
            Check.due("far", x.state(0, 0, 0, Integer.MIN_VALUE), -1000);
        }
    }

    // 9, 10, 23, 31: "there is none such (of either)"
    private static void noneSuch() {
        DownhillSong x = with("hut 9;singer 0 0;", "");
        for (int no : new int[] {-2, -1, 1, 2, Integer.MAX_VALUE, Integer.MIN_VALUE}) {
            Check.due("stop", x.stop(no, 0), -1);
            Check.due("stop", x.stop(0, no), -1);
            Check.due("state", x.state(no, 0, 0, 0), -1000);
            Check.due("state", x.state(0, no, 0, 0), -1000);
            for (int what = 0; what < 3; what++) {
                Check.due("odds", x.odds(no, 0, what), -1);
                Check.due("odds", x.odds(0, no, what), -1);
            }
            Check.due("drawn", x.drawn(no, 0, 0, 0), -1000);
            Check.due("teach", x.teach(no, 0, 0, 0), -1);
            Check.due("teach", x.teach(0, no, 0, 0), -1);
        }
        DownhillSong land = Check.land("hut 9;singer 0 0;");
        Check.due("no EVENING", land.stop(0, 0), -1);
        Check.due("no EVENING", land.state(0, 0, 0, 0), -1000);
        Check.due("no EVENING", land.odds(0, 0, 2), -1);
        Check.due("no EVENING", land.teach(0, 0, 0, 0), -1);
        Check.due("none needed", land.drawn(0, 0, 0, 0), 0);
        DownhillSong evening = with(null, "climb 0;");
        Check.due("no LAND", evening.stop(0, 0), -1);
        Check.due("no LAND", evening.state(0, 0, 0, 0), -1000);
        Check.due("no LAND", evening.odds(0, 0, 2), -1);
        Check.due("no LAND", evening.teach(0, 0, 0, 0), -1);
    }

    // 9, 10, 23, 24, 31: each LAND with each EVENING
    private static void theSecondOnes() {
        String[] lands = {"hut 9;hut 5;way 0 1 4;singer 0 0;knows 0 0;slide 3;", "hut 90;ladder 0 5;singer 0 2;singer 0 1;knows 1 0;"};
        String[] evenings = {"begin 0 0;sing 0 0;walk 0 1;", "begin 1 0;climb 1;sing 1 0;sing 0 0;"};
        DownhillSong x = new DownhillSong();
        for (int k = 0; k < 2; k++) {
            Check.told(x, 0, lands[k]);
            Check.told(x, 1, evenings[k]);
        }
        for (int a = 0; a < 2; a++) {
            for (int b = 0; b < 2; b++) {
                DownhillSong alone = with(lands[a], evenings[b]);
                Check.due("stop", x.stop(a, b), alone.stop(0, 0));
                for (int n = 0; n < 5; n++) {
                    for (int what = 0; what < 80; what++) {
                        Check.due("state", x.state(a, b, n, what), alone.state(0, 0, n, what));
                        Check.due("drawn", x.drawn(a, b + 7, 10 * n, what), alone.drawn(0, b + 7, 10 * n, what));
                    }
                    Check.due("teach", x.teach(a, b, n, 0), alone.teach(0, 0, n, 0));
                    Check.due("odds", x.odds(a, b, n), alone.odds(0, 0, n));
                }
            }
        }
        Check.due("STOPS", 1000 * x.stop(0, 0) + 100 * x.stop(0, 1) + 10 * x.stop(1, 0) + x.stop(1, 1), 3004);
    }

    // Terms 2, DONE FOR: "where he is less HIGH than its LEVEL (on no LADDER)"
    private static void doneForAsHigh() {
        String land = "hut 50;hut H;way 0 1 1;singer 0 0;knows 0 0;";
        for (int height = 48; height < 53; height++) {
            state(land.replace("H", Integer.toString(height)), "begin 0 0;", 4, height < 50 ? 0 : 1);
        }
        for (int tall = 0; tall < 10; tall++) {
            state("hut 50;singer 0 5;singer 0 " + tall + ";knows 0 0;", "begin 0 0;", 4, tall > 5 ? 0 : 1);
        }
        // He would stand on no LADDER there, though he does now.
        state("hut 50;ladder 0 1;singer 0 0;knows 0 0;", "climb 0;begin 0 0;", 4, 0);
        state("hut 50;ladder 0 1;singer 0 0;knows 0 0;", "begin 0 0;climb 0;", 4, 1);
        state("hut 50;hut 49;way 0 1 1;ladder 1 9;singer 0 0;knows 0 0;", "begin 0 0;", 4, 0);
        // LEVELS below 0 are LEVELS, too.
        state("hut 9;hut 0;way 0 1 1;singer 0 9;knows 0 0;", "begin 0 0;", 4, 0);
        state("hut 9;hut 0;way 0 1 1;singer 0 9;knows 0 0;", "walk 0 1;begin 0 0;", 4, 1);
    }

    // Terms 2, DONE FOR: "can come (by WAYS between HUTS that are not CUT off; from his HUT on, at once, too) to a HUT that is no DAM"
    private static void doneForByWays() {
        String land = "hut 50;hut 60;hut 40;way 0 1 9;way 1 2 1;deep 1;singer 0 0;singer 1 0;knows 0 0;";
        state(land, "begin 0 0;", 4, 0);
        state(land + "dam 1;", "begin 0 0;", 4, 0);
        state(land + "dam 2;", "begin 0 0;", 4, 1);
        state(land.replace("way 1 2 1;", ""), "begin 0 0;", 4, 1);
        state(land.replace("way 1 2 1;", "echo 1 2;echo 0 2;"), "begin 0 0;", 4, 1);
        // His own HUT is CUT off; then the one between; then the one he would come to.
        state(land, "begin 0 0;sing 0 0;", 4, 1);
        state(land + "knows 1 0;", "begin 0 0;sing 1 0;", 4, 0);
        state(land + "knows 1 0;", "begin 0 0;sing 1 0;sing 0 0;", 4, 1);
        state(land + "singer 2 0;knows 2 1;", "begin 0 0;begin 2 1;sing 2 1;", 4, 3);
        // Where he is counts, CUT off or not.
        state("hut 50;ladder 0 5;deep 1;singer 0 0;knows 0 0;", "climb 0;begin 0 0;sing 0 0;", 4, 0);
        // In a HUT that is a DAM he must walk on.
        state("hut 50;hut 40;way 0 1 1;dam 1;singer 0 0;knows 0 0;", "begin 0 0;walk 0 1;", 4, 1);
        // All the way through nine HUTS, up and down.
        state("hut 9;hut 20;hut 21;hut 22;hut 23;hut 24;hut 25;hut 26;hut 8;way 0 1 1;way 1 2 1;way 2 3 1;way 3 4 1;way 4 5 1;"
            + "way 5 6 1;way 6 7 1;way 7 8 1;singer 0 0;knows 0 0;", "begin 0 0;", 4, 0);
    }

    // Terms 2, DONE FOR: "a SONG that is begun", "no SINGER who KNOWS it"
    private static void doneForOnlyBegun() {
        state("hut 50;singer 0 0;knows 0 0;knows 0 1;", "", 4, 0);
        state("hut 50;singer 0 0;knows 0 0;knows 0 4;", "begin 0 4;", 4, 16);
        state("hut 50;singer 0 0;knows 0 0;knows 0 4;", "begin 0 4;begin 0 0;", 4, 17);
        // One who is low enough, but does not KNOW it.
        state("hut 50;hut 40;singer 0 0;singer 1 0;knows 0 0;knows 1 1;", "begin 0 0;", 4, 1);
        state("hut 50;hut 40;singer 0 0;singer 1 0;knows 0 0;knows 1 0;", "begin 0 0;", 4, 0);
    }

    // 10: a STATE is asked on its own, whichever was asked before
    private static void doneForOfEachState() {
        DownhillSong x = with("hut 40;hut 50;hut 45;way 0 1 1;way 1 2 1;deep 1;singer 1 0;singer 2 0;knows 0 0;", "begin 0 0;sing 0 0;");
        Check.told(x, 0, "hut 40;hut 50;hut 45;singer 1 0;singer 2 0;knows 0 0;");
        for (int round = 0; round < 2; round++) {
            Check.due("down to HUT 0", x.state(0, 0, 1, 4), 0);
            Check.due("without WAYS", x.state(1, 0, 1, 4), 1);
            Check.due("CUT off", x.state(0, 0, 2, 4), 1);
        }
        state("hut 40;hut 50;way 0 1 1;singer 1 0;knows 0 0;", "begin 0 0;", 4, 0);
        state("hut 60;hut 50;hut 40;way 1 0 1;way 0 2 1;singer 1 0;knows 0 0;", "begin 0 0;", 4, 0);
    }

    // Terms 2: "FAME of a SONG: how many KNOW it. SEERS: SINGERS who KNOW all SONGS that are begun."
    private static void fameAndSeers() {
        String land = "hut 9;hut 8;" + "singer 0 0;".repeat(3) + "singer 1 0;".repeat(3) + "knows 0 0;knows 3 0;knows 3 1;knows 5 4;";
        state(land, "", 2, 63);
        state(land, "", 20, 2);
        state(land, "", 21, 1);
        state(land, "", 22, 0);
        state(land, "", 24, 1);
        state(land, "begin 0 0;", 20, 4);
        state(land, "begin 0 0;", 2, 15);
        state(land, "begin 0 0;begin 3 1;", 21, 3);
        state(land, "begin 0 0;begin 3 1;", 2, 8);
        state(land, "begin 0 0;begin 3 1;sing 3 0;", 2, 56);
        state("", "", 2, 0);
        state("hut 1;", "", 20, 0);
    }

    // Terms 5, 23: "(of at most 18 AVALANCHES)", "NONE: .. more than 18 AVALANCHES (0, 1)"
    private static void oddsUpTo18() {
        for (int many = 16; many < 40; many++) {
            DownhillSong x = with("hut 9;singer 0 0;knows 0 0;slide 9;", "begin 0 0;" + "sing 0 0;".repeat(many));
            long n = 1;
            long d = 1;
            for (int k = 0; k < many && many <= 18; k++) {
                n *= 9;
                d *= 10;
            }
            Check.due("AVALANCHES", x.state(0, 0, many + 1, 1), many);
            Check.due("N of " + many, x.odds(0, 0, 0), many <= 18 ? n : -1);
            Check.due("D of " + many, x.odds(0, 0, 1), many <= 18 ? d : -1);
            Check.due("EXPECTED of " + many, x.odds(0, 0, 2), many);
            Check.due("what 3", x.odds(0, 0, 3), -1);
            Check.due("what -1", x.odds(0, 0, -1), -1);
        }
    }

    // Terms 5: "by SLIDE of 10 .. a fraction in least terms"; "EXPECTED: how many come on the mean, times 10"
    private static void oddsInLeastTerms() {
        int[][] one = {{0, 1}, {1, 10}, {1, 5}, {3, 10}, {2, 5}, {1, 2}, {3, 5}, {7, 10}, {4, 5}, {9, 10}, {1, 1}};
        for (int slide = 0; slide <= 10; slide++) {
            DownhillSong x = new DownhillSong();
            Check.told(x, 0, "hut 9;singer 0 0;knows 0 0;slide " + slide + ";");
            Check.told(x, 1, "");
            Check.told(x, 1, "begin 0 0;sing 0 0;sing 0 0;sing 0 0;");
            Check.due("N of none", x.odds(0, 0, 0), 1);
            Check.due("D of none", x.odds(0, 0, 1), 1);
            Check.due("EXPECTED of none", x.odds(0, 0, 2), 0);
            Check.due("N of 3", x.odds(0, 1, 0), one[slide][0] * one[slide][0] * one[slide][0]);
            Check.due("D of 3", x.odds(0, 1, 1), one[slide][1] * one[slide][1] * one[slide][1]);
            Check.due("EXPECTED of 3", x.odds(0, 1, 2), 3 * (10 - slide));
        }
    }

    // Terms 5: "of an EVENING up to STOP"
    private static void oddsUpToStop() {
        DownhillSong x = with("hut 9;singer 0 0;knows 0 0;", "begin 0 0;sing 0 0;climb 0;" + "sing 0 0;".repeat(30));
        Check.due("N", x.odds(0, 0, 0), 1);
        Check.due("D", x.odds(0, 0, 1), 2);
        Check.due("EXPECTED", x.odds(0, 0, 2), 5);
        DownhillSong none = with("", "begin 0 0;");
        Check.due("N of an empty LAND", none.odds(0, 0, 0), 1);
        Check.due("EXPECTED of an empty LAND", none.odds(0, 0, 2), 0);
    }

    // Terms 5, DRAWN: "n times, 0 to 60": 0 times is the EVENING's beginning
    private static void drawnNothing() {
        DownhillSong x = with(FULL, "");
        for (int seed : new int[] {0, 1, -1, Integer.MAX_VALUE, Integer.MIN_VALUE}) {
            for (int what = 0; what < 80; what++) {
                Check.due("drawn what " + what, x.drawn(0, seed, 0, what), x.state(0, 0, 0, what));
            }
        }
    }

    // Terms 5, DRAWN: "if he may": nothing is done else, and the numbers are drawn all the same
    private static void drawnOnlyIfHeMay() {
        // In a DAM without WAYS, knowing all: nothing can ever be.
        String still = "hut 9;dam 0;singer 0 0;knows 0 0;knows 0 1;knows 0 2;knows 0 3;knows 0 4;";
        DownhillSong x = with(still, "");
        DownhillSong none = with("hut 9;singer 0 0;", "");
        for (int n = 0; n <= 60; n++) {
            for (int what = 0; what < 80; what++) {
                Check.due("in a DAM", x.drawn(0, 5, n, what), x.state(0, 0, 0, what));
                Check.due("knowing none", none.drawn(0, 5, n, what), none.state(0, 0, 0, what));
            }
        }
    }

    // Terms 5, DRAWN: "else he sings a SONG, a number below 5: begins, if it is not begun, else sings"
    private static void drawnBeginsThenSings() {
        DownhillSong x = Check.land("hut 50;singer 0 0;knows 0 0;knows 0 1;knows 0 3;knows 0 4;");
        for (int seed = 0; seed < 20; seed++) {
            int now = seed;
            int begun = 0;
            int snow = 0;
            for (int n = 0; n <= 60; n++) {
                Check.due("SONGS begun by " + seed + " behind " + n, x.drawn(0, seed, n, 3), begun);
                Check.due("AVALANCHES by " + seed + " behind " + n, x.drawn(0, seed, n, 1), snow);
                Check.due("SNOW by " + seed + " behind " + n, x.drawn(0, seed, n, 70), snow);
                Check.due("LEVEL by " + seed + " behind " + n, x.drawn(0, seed, n, 10), (begun & 1) == 1 ? 50 : -1);
                int[] drawn = new int[3];
                for (int i = 0; i < 3; i++) {
                    now = now * 1103515245 + 12345;
                    drawn[i] = now >>> 16;
                }
                int song = drawn[2] % 5;
                if (drawn[1] % 8 > 2 && song != 2) {
                    // Alone in his HUT he is as HIGH as the LEVEL, whenever it is sung again.
                    snow += begun >> song & 1;
                    begun |= 1 << song;
                }
            }
        }
    }

    // Terms 5, DRAWN: "x becomes x * 1103515245 + 12345 (of 32 bits), it is x shifted right by 16 without sign"
    private static void drawnWrapsAround() {
        String land = "hut 50;hut 40;hut 30;way 0 1 1;way 0 2 2;way 1 2 4;deep 9;singer 0 0;";
        DownhillSong x = Check.land(land);
        for (int seed : new int[] {0, 1, -1, 2, 65535, 65536, 1 << 30, 1 << 31, Integer.MAX_VALUE, -12345, 987654321}) {
            long bits = seed & 0xffffffffL;
            int hut = 0;
            int minute = 0;
            for (int n = 0; n <= 60; n++) {
                Check.due("minute by " + seed + " behind " + n, x.drawn(0, seed, n, 0), minute);
                Check.due("HUT by " + seed + " behind " + n, x.drawn(0, seed, n, 30), hut);
                long[] drawn = new long[3];
                for (int i = 0; i < 3; i++) {
                    bits = (bits * 1103515245L + 12345L) % (1L << 32);
                    drawn[i] = bits / 65536;
                }
                int to = (int) (drawn[2] % 3);
                if (drawn[1] % 8 <= 2 && to != hut) {
                    minute += to + hut == 1 ? 1 : to + hut == 2 ? 2 : 4;
                    hut = to;
                }
            }
        }
    }

    // 24: "-1000: there are no SINGERS, there is none such, another n, or for another what."
    private static void drawnEdges() {
        DownhillSong x = new DownhillSong();
        Check.told(x, 0, "hut 9;singer 0 0;");
        Check.told(x, 0, "hut 9;");
        for (int n : new int[] {-1, 61, 62, Integer.MAX_VALUE, Integer.MIN_VALUE}) {
            Check.due("n " + n, x.drawn(0, 0, n, 0), -1000);
        }
        Check.due("n 60", x.drawn(0, 0, 60, 0), 0);
        Check.due("n 0", x.drawn(0, 0, 0, 0), 0);
        Check.due("no SINGERS", x.drawn(1, 0, 0, 0), -1000);
        Check.due("no SINGERS", x.drawn(1, 0, 60, 70), -1000);
        for (int no : ODD) {
            Check.due("no LAND", x.drawn(no, 0, 0, 0), -1000);
        }
        for (int what : new int[] {-1, 5, 9, 15, 25, 31, 41, 51, 61, 71, 79, 80, 100, Integer.MAX_VALUE, Integer.MIN_VALUE}) {
            Check.due("what " + what, x.drawn(0, 0, 1, what), -1000);
        }
    }

    // 31, TEACH: all KNOW it already
    private static void teachNothing() {
        Check.due("without SINGERS", with("hut 1;", "").teach(0, 0, 0, 0), 0);
        Check.due("without HUTS", with("", "").teach(0, 0, 0, 4), 0);
        Check.due("one who KNOWS it", with("hut 1;singer 0 0;knows 0 4;", "").teach(0, 0, 0, 4), 0);
        Check.due("in a DAM", with("hut 1;dam 0;singer 0 0;knows 0 4;", "").teach(0, 0, 0, 4), 0);
        Check.due("he does not", with("hut 1;singer 0 0;knows 0 4;", "").teach(0, 0, 0, 3), -1);
    }

    // 31: "NONE: never" and "never WRONG, nobody walking, climbing, descending"
    private static void teachNever() {
        String land = "hut 50;hut 40;way 0 1 1;singer 0 0;singer 1 0;knows 0 0;";
        Check.due("nobody walks", with(land, "").teach(0, 0, 0, 0), -1);
        Check.due("heard by an ECHO", with(land + "echo 0 1;", "").teach(0, 0, 0, 0), 1);
        Check.due("not by an ECHO to a DAM", with(land + "echo 0 1;dam 1;", "").teach(0, 0, 0, 0), -1);
        Check.due("not by one who is in a DAM", with(land + "echo 0 1;dam 0;", "").teach(0, 0, 0, 0), -1);
        // As HIGH as the LEVEL is WRONG; one lower is not; whistling is no singing.
        for (int tall = 4; tall < 7; tall++) {
            String two = "hut 50;hut 40;singer 0 5;singer 0 " + tall + ";knows 0 0;";
            DownhillSong x = with(two + "singer 1 0;echo 0 1;", "begin 0 0;");
            Check.due("begun, all KNOW it", x.teach(0, 0, 1, 0), 0);
            DownhillSong late = with("hut 50;hut 40;way 1 0 1;singer 0 5;singer 0 " + tall + ";singer 1 0;knows 0 0;", "begin 0 0;walk 2 0;");
            Check.due("he comes late", late.teach(0, 0, 2, 0), tall > 5 ? 1 : -1);
        }
        // Nobody descends: on his LADDER he is too HIGH.
        String ladder = "hut 50;hut 45;hut 40;echo 0 1;echo 1 2;ladder 1 9;singer 0 0;singer 1 0;singer 2 0;knows 0 0;";
        Check.due("not on it", with(ladder, "climb 1;").teach(0, 0, 0, 0), 2);
        Check.due("on it", with(ladder, "climb 1;").teach(0, 0, 1, 0), -1);
    }

    // Terms 6, TEACH: "the fewest times it is to be sung (begun, if it is not)"
    private static void teachFewest() {
        String chain = "hut 50;hut 40;hut 30;hut 20;hut 10;echo 0 1;echo 1 2;echo 2 3;echo 3 4;singer 0 0;singer 1 0;singer 2 0;singer 3 0;"
            + "singer 4 0;singer 4 9;knows 0 0;";
        DownhillSong x = with(chain, "begin 0 0;sing 1 0;sing 2 0;sing 3 0;");
        for (int n = 0; n <= 4; n++) {
            Check.due("behind " + n, x.teach(0, 0, n, 0), 4 - n);
        }
        // The highest who KNOWS it may be left out, and one who would be too low for a later one.
        String leave = "hut 50;hut 40;hut 30;echo 1 2;singer 0 0;singer 1 0;singer 2 0;knows 0 0;knows 1 0;";
        Check.due("one is enough", with(leave, "").teach(0, 0, 0, 0), 1);
        String both = "hut 50;hut 40;hut 30;echo 0 2;singer 0 0;singer 1 0;singer 1 1;singer 2 0;knows 0 0;knows 1 0;";
        Check.due("both, the higher first", with(both, "").teach(0, 0, 0, 0), 2);
        Check.due("the lower one began", with(both, "begin 1 0;").teach(0, 0, 1, 0), -1);
        // Two who would have to sing, one as HIGH as the other: the second would be WRONG.
        String like = "hut 50;hut 50;singer 0 0;singer 1 0;singer 0 4;singer 1 4;knows 0 0;knows 1 0;";
        Check.due("as HIGH", with(like, "").teach(0, 0, 0, 0), -1);
        Check.due("one less HIGH", with(like.replace("hut 50;hut 50;", "hut 50;hut 49;"), "").teach(0, 0, 0, 0), 2);
        // Six of them, each in a HUT of his own but the last.
        String six = "hut 50;hut 40;hut 30;hut 20;hut 10;echo 0 1;echo 0 2;echo 0 3;echo 0 4;singer 0 0;singer 1 0;singer 2 0;singer 3 0;"
            + "singer 4 0;singer 4 1;knows 5 3;knows 0 3;";
        Check.due("at once", with(six, "").teach(0, 0, 0, 3), 1);
        Check.due("the last alone", with(six.replace("knows 0 3;", ""), "").teach(0, 0, 0, 3), -1);
    }

    // 31: "there is no such STATE, or SONG"
    private static void teachEdges() {
        DownhillSong x = with("hut 1;ladder 0 1;singer 0 0;" + "knows 0 0;knows 0 1;knows 0 2;knows 0 3;knows 0 4;", "climb 0;climb 0;climb 0;");
        for (int song = -2; song < 8; song++) {
            Check.due("SONG " + song, x.teach(0, 0, 0, song), song >= 0 && song < 5 ? 0 : -1);
        }
        DownhillSong without = with("hut 1;", "");
        for (int song = -2; song < 8; song++) {
            Check.due("SONG " + song + " without SINGERS", without.teach(0, 0, 0, song), song >= 0 && song < 5 ? 0 : -1);
        }
        for (int n = -2; n < 5; n++) {
            Check.due("n " + n, x.teach(0, 0, n, 0), n == 0 || n == 1 ? 0 : -1);
        }
        Check.due("far", x.teach(0, 0, 0, Integer.MAX_VALUE), -1);
        Check.due("far", x.teach(0, 0, 0, Integer.MIN_VALUE), -1);
        Check.due("far", x.teach(0, 0, Integer.MAX_VALUE, 0), -1);
        Check.due("far", x.teach(0, 0, Integer.MIN_VALUE, 0), -1);
    }
}
