/**
 * Promises 11 to 16, 18, 25 to 30 and Terms 3, 4 and 6, boundary by boundary: each method stands for one sentence of the
 * document (told above it) that names a case too small, too large, empty, full or refused.
 */
public final class EdgesSlopeTest {
    private static final int[] FAR = {-3, -2, -1, 9, 10, Integer.MAX_VALUE, Integer.MIN_VALUE};
    /** Nine HUTS in a row downhill, 9 minutes each. */
    private static final String LINE = "hut 8;hut 7;hut 6;hut 5;hut 4;hut 3;hut 2;hut 1;hut 0;way 0 1 9;way 1 2 9;way 2 3 9;way 3 4 9;"
        + "way 4 5 9;way 5 6 9;way 6 7 9;way 7 8 9;";

    public static void main(String[] args) {
        onlyToLowerHuts();
        comesToItself();
        comesSoonest();
        comesNotByDams();
        comesByEchoes();
        comesEdges();
        allByThatMinute();
        allWithoutVillages();
        crewFewest();
        crewByNone();
        villagesEdges();
        bestOfSeveral();
        bestFromNone();
        routesAtLeast();
        routesSteep();
        routesEdges();
        mutesCount();
        worstOfNone();
        mutesEdges();
        massesByThatMinute();
        massesEdges();
        fitsByThatMinute();
        fitsEdges();
        askParts();
        psalmByThatMinute();
        psalmEdges();
        meetSoonest();
        meetEdges();
        carrySoonest();
        carryEdges();
        joinSoonest();
        joinEdges();
        topsAndEnds();
        couplesAndDepth();
        slopesEdges();
        floodFewest();
        floodEdges();
        theSecondLand();
        emptyLand();
        Check.finish();
    }

    private static DownhillSong with(String land) {
        return Check.land(land);
    }

    // Terms 3: "goes by WAYS from HUT to lower HUT (of less HEIGHT)"
    private static void onlyToLowerHuts() {
        for (int height = 4; height < 7; height++) {
            DownhillSong x = with("hut 5;hut " + height + ";way 0 1 3;");
            Check.due("down to " + height, x.comes(0, 0, 1), height < 5 ? 3 : -1);
            Check.due("up from " + height, x.comes(0, 1, 0), height > 5 ? 3 : -1);
            Check.due("ROUTES", x.routes(0, 0, 1, 0), height < 5 ? 1 : 0);
        }
        Check.due("from 99 to 0", with("hut 99;hut 0;way 1 0 1;").comes(0, 0, 1), 1);
        Check.due("no WAY", with("hut 99;hut 0;").comes(0, 0, 1), -1);
    }

    // Terms 3: "begun at a HUT at minute 0"
    private static void comesToItself() {
        DownhillSong x = with("hut 5;hut 4;dam 1;");
        Check.due("itself", x.comes(0, 0, 0), 0);
        Check.due("a DAM itself", x.comes(0, 1, 1), -1);
    }

    // Terms 3: "COMES: the minute at which it is first at a HUT"
    private static void comesSoonest() {
        Check.due("all the way", with(LINE).comes(0, 0, 8), 72);
        Check.due("back", with(LINE).comes(0, 8, 0), -1);
        DownhillSong x = with("hut 9;hut 8;hut 7;hut 6;way 0 3 9;way 0 1 2;way 1 2 2;way 2 3 2;");
        Check.due("by more WAYS", x.comes(0, 0, 3), 6);
        Check.due("by one WAY", with("hut 9;hut 8;hut 7;way 0 2 4;way 0 1 2;way 1 2 3;").comes(0, 0, 2), 4);
    }

    // Terms 3: "no DAM being among them", 11: "NONE: never, one is a DAM"
    private static void comesNotByDams() {
        for (int dam = 0; dam < 9; dam++) {
            DownhillSong x = with(LINE + "dam " + dam + ";");
            for (int a = 0; a < 9; a++) {
                for (int b = 0; b < 9; b++) {
                    boolean never = b < a || a <= dam && dam <= b;
                    Check.due("comes by DAM " + dam, x.comes(0, a, b), never ? -1 : 9 * (b - a));
                }
            }
        }
    }

    // Terms 3: "by ECHOES it comes, at once, too, whatever HEIGHTS are (from a HUT at which it is, to one that is no DAM, ..)"
    private static void comesByEchoes() {
        DownhillSong x = with("hut 5;hut 5;hut 9;hut 4;way 0 3 3;way 2 1 2;echo 3 2;");
        Check.due("down, up by an ECHO, down", x.comes(0, 0, 1), 5);
        Check.due("at once", x.comes(0, 0, 2), 3);
        Check.due("one direction", x.comes(0, 2, 3), -1);
        DownhillSong chain = with("hut 1;hut 2;hut 3;hut 4;hut 5;echo 0 1;echo 1 2;echo 2 3;echo 3 4;");
        Check.due("by four ECHOES", chain.comes(0, 0, 4), 0);
        DownhillSong dam = with("hut 1;hut 2;hut 3;hut 4;hut 5;echo 0 1;echo 1 2;echo 2 3;echo 3 4;dam 2;");
        Check.due("up to the DAM", dam.comes(0, 0, 1), 0);
        Check.due("not to the DAM", dam.comes(0, 0, 2), -1);
        Check.due("not through the DAM", dam.comes(0, 0, 3), -1);
        Check.due("not from the DAM", dam.comes(0, 2, 3), -1);
        Check.due("behind the DAM", dam.comes(0, 3, 4), 0);
        Check.due("ROUTES by ECHOES", chain.routes(0, 0, 1, 0), 0);
    }

    // 11: "or there is none such (of any)"
    private static void comesEdges() {
        DownhillSong x = with(LINE);
        for (int no : FAR) {
            Check.due("from " + no, x.comes(0, no, 0), -1);
            Check.due("to " + no, x.comes(0, 0, no), -1);
            Check.due("LAND " + no, x.comes(no, 0, 1), -1);
        }
        DownhillSong two = with("hut 9;hut 8;way 0 1 1;");
        Check.due("HUT 2", two.comes(0, 0, 2), -1);
        Check.due("HUT 2 itself", two.comes(0, 2, 2), -1);
        Check.due("HUT 8", two.comes(0, 8, 0), -1);
    }

    // Terms 3: "ALL: .. to all VILLAGES (that are no DAMS) by a minute, that one, too"
    private static void allByThatMinute() {
        DownhillSong x = with(LINE + "village 8;");
        for (int minute = 0; minute < 100; minute++) {
            int want = 0;
            for (int h = 0; h < 9; h++) {
                want |= 9 * (8 - h) <= minute ? 1 << h : 0;
            }
            Check.due("ALL by " + minute, x.villages(0, minute, 0), want);
        }
        DownhillSong two = with("hut 9;hut 8;hut 7;hut 6;way 0 1 3;way 0 2 5;way 3 1 1;village 1;village 2;village 3;dam 3;");
        Check.due("the last one counts", two.villages(0, 4, 0), 0);
        Check.due("that one, too", two.villages(0, 5, 0), 1);
    }

    // Terms 3: "(without such VILLAGES the first HUT that is no DAM, 0)"; ALL are all that are no DAMS then
    private static void allWithoutVillages() {
        for (String villages : new String[] {"", "village 0;", "village 0;village 2;"}) {
            DownhillSong x = with("hut 9;hut 8;hut 7;hut 6;dam 0;dam 2;" + villages);
            Check.due("ALL", x.villages(0, 0, 0), 10);
            Check.due("ALL", x.villages(0, 99, 0), 10);
            Check.due("BEST", x.best(0, false), 1);
            Check.due("BEST minute", x.best(0, true), 0);
        }
        DownhillSong dams = with("hut 9;hut 8;dam 0;dam 1;village 1;");
        Check.due("ALL of DAMS alone", dams.villages(0, 99, 0), 0);
        Check.due("BEST of DAMS alone", dams.best(0, false), -1);
        Check.due("BEST of DAMS alone", dams.best(0, true), -1);
    }

    // Terms 3: "CREW: the fewest HUTS (bits; of several the least)"
    private static void crewFewest() {
        DownhillSong x = with("hut 5;hut 5;hut 5;hut 9;hut 9;way 3 0 4;way 3 1 4;way 3 2 4;way 4 0 4;way 4 1 4;way 4 2 4;village 0;village 1;"
            + "village 2;");
        Check.due("one that is not the least number", x.villages(0, 4, 1), 8);
        Check.due("by 3: the VILLAGES themselves", x.villages(0, 3, 1), 7);
        Check.due("by 99", x.villages(0, 99, 1), 8);
        Check.due("without VILLAGES", with("hut 5;hut 5;").villages(0, 0, 1), 0);
        DownhillSong line = with(LINE + "village 0;village 8;village 4;");
        Check.due("by 35", line.villages(0, 35, 1), 1 | 2 | 32);
        Check.due("by 36", line.villages(0, 36, 1), 1 | 16);
        Check.due("by 71", line.villages(0, 71, 1), 1 | 2);
        Check.due("by 72", line.villages(0, 72, 1), 1);
        Check.due("nine of them", with("hut 1;".repeat(9) + "village 0;village 1;village 2;village 3;village 4;village 5;village 6;"
            + "village 7;village 8;").villages(0, 99, 1), 511);
    }

    // 12: "NONE: by none": a VILLAGE that is a DAM is come to by none
    private static void crewByNone() {
        DownhillSong x = with("hut 9;hut 5;way 0 1 1;dam 1;village 1;");
        Check.due("CREW", x.villages(0, 99, 1), -1);
        Check.due("ALL leaves it out", x.villages(0, 0, 0), 1);
        DownhillSong more = with("hut 9;hut 5;hut 4;way 0 1 1;way 0 2 1;dam 1;village 1;village 2;");
        Check.due("CREW", more.villages(0, 99, 1), -1);
        Check.due("ALL leaves it out", more.villages(0, 1, 0), 5);
    }

    // 12: "By a minute, 0 .. 99 .. -2: there is none such, another minute, or for another what."
    private static void villagesEdges() {
        DownhillSong x = with("hut 9;village 0;");
        for (int what = 0; what < 2; what++) {
            Check.due("minute 0", x.villages(0, 0, what), 1);
            Check.due("minute 99", x.villages(0, 99, what), 1);
            for (int minute : new int[] {-1, 100, Integer.MAX_VALUE, Integer.MIN_VALUE}) {
                Check.due("minute " + minute, x.villages(0, minute, what), -2);
            }
            for (int no : new int[] {-1, 1, 2, Integer.MAX_VALUE, Integer.MIN_VALUE}) {
                Check.due("LAND " + no, x.villages(no, 0, what), -2);
            }
        }
        for (int what : new int[] {-2, -1, 2, 3, Integer.MAX_VALUE, Integer.MIN_VALUE}) {
            Check.due("what " + what, x.villages(0, 0, what), -2);
        }
    }

    // Terms 3: "BEST: the HUT from which it is soonest at the last of these, of several the least; that minute"
    private static void bestOfSeveral() {
        DownhillSong x = with("hut 5;hut 9;hut 9;hut 4;way 1 0 3;way 1 3 5;way 2 0 5;way 2 3 2;village 0;village 3;");
        Check.due("of two", x.best(0, false), 1);
        Check.due("its minute", x.best(0, true), 5);
        DownhillSong later = with("hut 5;hut 9;hut 9;hut 4;way 1 0 3;way 1 3 5;way 2 0 4;way 2 3 2;village 0;village 3;");
        Check.due("the sooner one", later.best(0, false), 2);
        Check.due("its minute", later.best(0, true), 4);
        DownhillSong dam = with("hut 5;hut 9;hut 4;way 1 0 3;way 1 2 9;village 0;village 2;dam 2;");
        Check.due("a VILLAGE that is a DAM is left out", dam.best(0, false), 0);
        Check.due("at minute 0", dam.best(0, true), 0);
        Check.due("72 minutes", with(LINE + "village 0;village 8;").best(0, true), 72);
    }

    // 13: "NONE: from none, or there is none such."
    private static void bestFromNone() {
        DownhillSong x = with("hut 5;hut 5;village 0;village 1;");
        for (int no : new int[] {-1, 0, 1, 2, Integer.MAX_VALUE, Integer.MIN_VALUE}) {
            Check.due("HUT", x.best(no, false), -1);
            Check.due("minute", x.best(no, true), -1);
        }
    }

    // Terms 3: "ROUTES .. how many; LONGEST: the most WAYS in one", 14: "(1, 2: NONE without)"
    private static void routesAtLeast() {
        DownhillSong line = with(LINE);
        for (int a = 0; a < 9; a++) {
            for (int b = 0; b < 9; b++) {
                boolean there = a < b;
                Check.due("ROUTES", line.routes(0, a, b, 0), a == b ? -2 : there ? 1 : 0);
                Check.due("LONGEST", line.routes(0, a, b, 1), a == b ? -2 : there ? b - a : -1);
                Check.due("STEEP", line.routes(0, a, b, 2), a == b ? -2 : there ? 1 : -1);
            }
        }
        DownhillSong dam = with("hut 9;hut 8;hut 7;way 0 1 1;way 1 2 1;way 0 2 1;dam 1;");
        Check.due("round the DAM", dam.routes(0, 0, 2, 0), 1);
        Check.due("round the DAM", dam.routes(0, 0, 2, 1), 1);
        Check.due("to the DAM", dam.routes(0, 0, 1, 0), 0);
        Check.due("to the DAM", dam.routes(0, 0, 1, 1), -1);
        Check.due("from the DAM", dam.routes(0, 1, 2, 0), 0);
        Check.due("from the DAM", dam.routes(0, 1, 2, 2), -1);
        // To HUT 0, too, and from HUT 8.
        DownhillSong up = with("hut 1;hut 2;hut 4;way 2 1 1;way 1 0 1;way 2 0 1;");
        Check.due("to HUT 0", up.routes(0, 2, 0, 0), 2);
        Check.due("to HUT 0", up.routes(0, 2, 0, 1), 2);
        Check.due("to HUT 0", up.routes(0, 2, 0, 2), 2);
        // As many as can be: all nine HUTS, each with each.
        StringBuilder all = new StringBuilder();
        for (int a = 0; a < 9; a++) {
            all.append("hut ").append(a).append(';');
            for (int b = 0; b < a; b++) {
                all.append("way ").append(a).append(' ').append(b).append(" 1;");
            }
        }
        DownhillSong most = with(all.toString());
        for (int a = 1; a < 9; a++) {
            Check.due("ROUTES of " + a, most.routes(0, a, 0, 0), 1 << a - 1);
            Check.due("LONGEST of " + a, most.routes(0, a, 0, 1), a);
            Check.due("STEEP of " + a, most.routes(0, a, 0, 2), 1);
        }
    }

    // Terms 3: "STEEP: of all ROUTES the one whose greatest fall of one WAY is least: that fall"
    private static void routesSteep() {
        DownhillSong x = with("hut 99;hut 60;hut 50;hut 0;way 0 1 1;way 0 2 1;way 1 3 1;way 2 3 1;way 0 3 1;");
        Check.due("the lesser of the greatest", x.routes(0, 0, 3, 2), 50);
        Check.due("one WAY", with("hut 99;hut 0;way 0 1 1;").routes(0, 0, 1, 2), 99);
        Check.due("a fall of 1", with("hut 99;hut 98;way 0 1 1;").routes(0, 0, 1, 2), 1);
    }

    // 14: "-2: there is none such (of any), both are one, or for another what"
    private static void routesEdges() {
        DownhillSong x = with("hut 9;hut 8;way 0 1 1;");
        for (int what = 0; what < 3; what++) {
            for (int no : new int[] {-1, 2, 8, 9, Integer.MAX_VALUE, Integer.MIN_VALUE}) {
                Check.due("from " + no, x.routes(0, no, 1, what), -2);
                Check.due("to " + no, x.routes(0, 0, no, what), -2);
                Check.due("both " + no, x.routes(0, no, no, what), -2);
                Check.due("LAND " + no, x.routes(no, 0, 1, what), -2);
            }
            Check.due("both are one", x.routes(0, 0, 0, what), -2);
            Check.due("LAND 1", x.routes(1, 0, 1, what), -2);
        }
        for (int what : new int[] {-1, 3, Integer.MAX_VALUE, Integer.MIN_VALUE}) {
            Check.due("what " + what, x.routes(0, 0, 1, what), -2);
        }
    }

    // Terms 3: "MUTES .. to how many HUTS, but a and that one, a SONG begun at HUT a comes no more, to which it did"
    private static void mutesCount() {
        DownhillSong line = with(LINE);
        for (int a = 0; a < 9; a++) {
            for (int h = 0; h < 9; h++) {
                Check.due("MUTES of " + h + " for " + a, line.mutes(0, a, h), h == a ? -2 : h < a ? 0 : 8 - h);
            }
            Check.due("WORST for " + a, line.mutes(0, a, -1), a < 7 ? a + 1 : 0);
        }
        DownhillSong echo = with("hut 1;hut 2;hut 3;way 2 0 1;echo 0 1;echo 1 2;");
        Check.due("by ECHOES", echo.mutes(0, 0, 1), 1);
        Check.due("a itself does not count", echo.mutes(0, 2, 0), 1);
        DownhillSong round = with("hut 9;hut 8;hut 7;hut 6;way 0 1 1;way 0 2 1;way 1 3 1;way 2 3 1;");
        Check.due("another ROUTE is left", round.mutes(0, 0, 1), 0);
        Check.due("WORST of several 0", round.mutes(0, 0, -1), 1);
        Check.due("WORST of several 0", round.mutes(0, 3, -1), 0);
    }

    // 15: "(hut NONE: WORST; NONE: no such HUT)"
    private static void worstOfNone() {
        Check.due("a alone", with("hut 9;").mutes(0, 0, -1), -1);
        Check.due("a and DAMS", with("hut 9;hut 8;hut 7;dam 0;dam 2;").mutes(0, 1, -1), -1);
        Check.due("one other", with("hut 9;hut 8;hut 7;dam 0;").mutes(0, 1, -1), 2);
    }

    // 15: "-2: a or the HUT is a DAM, both are one, or there is none such (of any)"
    private static void mutesEdges() {
        DownhillSong x = with("hut 9;hut 8;hut 7;dam 2;");
        Check.due("a is a DAM", x.mutes(0, 2, 0), -2);
        Check.due("a is a DAM", x.mutes(0, 2, -1), -2);
        Check.due("the HUT is a DAM", x.mutes(0, 0, 2), -2);
        Check.due("both are one", x.mutes(0, 0, 0), -2);
        for (int no : new int[] {-2, 3, 8, 9, Integer.MAX_VALUE, Integer.MIN_VALUE}) {
            Check.due("a " + no, x.mutes(0, no, 0), -2);
            Check.due("a " + no, x.mutes(0, no, -1), -2);
            Check.due("HUT " + no, x.mutes(0, 0, no), -2);
            Check.due("LAND " + no, x.mutes(no, 0, 1), -2);
            Check.due("LAND " + no, x.mutes(no, 0, -1), -2);
        }
        Check.due("a NONE", x.mutes(0, -1, 0), -2);
        Check.due("LAND NONE", x.mutes(-1, 0, 1), -2);
        Check.due("LAND 1", x.mutes(1, 0, 1), -2);
    }

    // Terms 3: "MASSES: .. each VILLAGE is k minutes by WAYS (up and down, DAMS, too) or less from one"
    private static void massesByThatMinute() {
        DownhillSong line = with(LINE + "village 0;village 8;dam 4;dam 0;");
        Check.due("k 0", line.masses(0, 0, true), 257);
        Check.due("k 26", line.masses(0, 26, true), 1 | 64);
        Check.due("k 27: the least of two", line.masses(0, 27, true), 1 | 32);
        Check.due("k 35", line.masses(0, 35, true), 1 | 32);
        Check.due("k 36", line.masses(0, 36, true), 16);
        Check.due("k 44", line.masses(0, 44, true), 16);
        Check.due("k 45", line.masses(0, 45, true), 8);
        Check.due("k 71", line.masses(0, 71, true), 2);
        Check.due("k 72", line.masses(0, 72, true), 1);
        Check.due("k 35, how many", line.masses(0, 35, false), 2);
        Check.due("k 72, how many", line.masses(0, 72, false), 1);
        Check.due("without VILLAGES", with(LINE).masses(0, 0, true), 0);
        Check.due("without VILLAGES", with(LINE).masses(0, 99, false), 0);
        Check.due("no WAYS", with("hut 1;hut 1;hut 1;village 1;village 2;").masses(0, 99, true), 6);
        Check.due("ECHOES do not count", with("hut 1;hut 1;echo 0 1;echo 1 0;village 0;village 1;").masses(0, 99, true), 3);
        Check.due("nine of them", with("hut 1;".repeat(9) + "village 0;village 1;village 2;village 3;village 4;village 5;village 6;"
            + "village 7;village 8;").masses(0, 99, false), 9);
    }

    // 16: "MASSES, k 0 .. 99 .. NONE: there is none such, or another k."
    private static void massesEdges() {
        DownhillSong x = with("hut 1;village 0;");
        Check.due("k 0", x.masses(0, 0, true), 1);
        Check.due("k 99", x.masses(0, 99, true), 1);
        for (int k : new int[] {-1, 100, Integer.MAX_VALUE, Integer.MIN_VALUE}) {
            Check.due("k " + k, x.masses(0, k, true), -1);
            Check.due("k " + k, x.masses(0, k, false), -1);
        }
        for (int no : new int[] {-1, 1, 2, Integer.MAX_VALUE, Integer.MIN_VALUE}) {
            Check.due("LAND " + no, x.masses(no, 0, true), -1);
            Check.due("LAND " + no, x.masses(no, 0, false), -1);
        }
    }

    // Terms 4: "at each HUT heard of by its minute, that one, too, and came to none told mute by then (at that minute neither)"
    private static void fitsByThatMinute() {
        for (int minute = 0; minute <= 60; minute++) {
            DownhillSong x = Check.with(LINE, null, "heard 8 " + minute + ";", null);
            Check.told(x, 2, "mute 8 " + minute + ";");
            int heard = 0;
            for (int h = 0; h < 9; h++) {
                heard |= 9 * (8 - h) <= minute ? 1 << h : 0;
            }
            Check.due("heard by " + minute, x.fits(0, 0, false), heard);
            Check.due("mute till " + minute, x.fits(0, 1, false), 511 & ~heard);
        }
        DownhillSong x = Check.with(LINE + "dam 3;", null, "heard 2 18;mute 2 17;mute 3 60;", null);
        Check.due("both told", x.fits(0, 0, false), 1);
        Check.due("ASK of one", x.fits(0, 0, true), 0);
        Check.tell(x, 2, 0, "");
        Check.due("no FACTS: all but the DAM", x.fits(0, 0, false), 511 & ~8);
        Check.tell(x, 2, 0, "heard 3 60;");
        Check.due("heard at a DAM", x.fits(0, 0, false), 0);
        Check.due("ASK of none", x.fits(0, 0, true), -1);
        Check.tell(x, 2, 0, "heard 2 60;mute 2 60;");
        Check.due("both heard and mute", x.fits(0, 0, false), 0);
        Check.due("ASK of none", x.fits(0, 0, true), -1);
    }

    // 18: "-2: a HUT told of is not there, or there is none such (of either)"
    private static void fitsEdges() {
        for (int huts = 1; huts < 9; huts++) {
            DownhillSong x = Check.with("hut 1;".repeat(huts), null, "mute 0 0;mute " + huts + " 0;", null);
            Check.told(x, 2, "mute " + (huts - 1) + " 60;");
            Check.due("not there", x.fits(0, 0, false), -2);
            Check.due("not there", x.fits(0, 0, true), -2);
            Check.due("the last HUT", x.fits(0, 1, false), (1 << huts) - 1 & ~(1 << huts - 1));
        }
        DownhillSong x = Check.with("hut 1;", null, "", null);
        for (int no : new int[] {-1, 1, 2, Integer.MAX_VALUE, Integer.MIN_VALUE}) {
            Check.due("LAND " + no, x.fits(no, 0, false), -2);
            Check.due("LAND " + no, x.fits(no, 0, true), -2);
            Check.due("SIGHT " + no, x.fits(0, no, false), -2);
            Check.due("SIGHT " + no, x.fits(0, no, true), -2);
        }
        Check.due("no SIGHTS", with("hut 1;").fits(0, 0, false), -2);
        Check.due("no LANDS", Check.with(null, null, "", null).fits(0, 0, false), -2);
        DownhillSong empty = Check.with("", null, "", null);
        Check.due("no HUTS", empty.fits(0, 0, false), 0);
        Check.due("no HUTS", empty.fits(0, 0, true), -1);
        Check.tell(empty, 2, 0, "mute 0 0;");
        Check.due("no HUT 0", empty.fits(0, 0, false), -2);
    }

    // Terms 4: "ASK: .. the greater part, having come there by then or not, is least; of several the least number"
    private static void askParts() {
        DownhillSong x = Check.with(LINE, null, "", null);
        Check.due("of nine: five or four, HUT 3 by 27", x.fits(0, 0, true), 273);
        Check.tell(x, 2, 0, "heard 8 9;");
        Check.due("of two: HUT 7 at once", x.fits(0, 0, true), 7);
        Check.tell(x, 2, 0, "heard 8 27;mute 7 0;mute 8 0;");
        Check.due("of two: HUT 5 at once", x.fits(0, 0, true), 5);
        Check.tell(x, 2, 0, "heard 8 36;mute 8 0;");
        Check.due("of four: HUT 5 by 9", x.fits(0, 0, true), 95);
        DownhillSong dam = Check.with("hut 1;hut 2;dam 0;", null, "", null);
        Check.due("of one: the least number", dam.fits(0, 0, true), 0);
        // None can be parted: each hears the other at once.
        DownhillSong same = Check.with("hut 1;hut 2;hut 3;echo 1 2;echo 2 1;dam 0;", null, "", null);
        Check.due("of two that are alike", same.fits(0, 0, false), 6);
        Check.due("of two that are alike", same.fits(0, 0, true), 0);
    }

    // Terms 6: "PSALM for a HUT by a noon: HUTS (bits; no DAM) from which a SONG comes to it by that minute; the HIGHEST ..; LATE"
    private static void psalmByThatMinute() {
        DownhillSong x = with(LINE);
        for (int noon = 0; noon < 100; noon++) {
            int want = 0;
            for (int h = 8; h >= 0; h--) {
                want |= 9 * (8 - h) <= noon ? 1 << h : 0;
            }
            Check.due("HUTS by " + noon, x.psalm(0, 8, noon, 0), want);
            Check.due("HIGHEST by " + noon, x.psalm(0, 8, noon, 1), Integer.numberOfTrailingZeros(want));
            Check.due("LATE by " + noon, x.psalm(0, 8, noon, 2), noon);
        }
        DownhillSong like = with("hut 5;hut 9;hut 9;way 0 1 1;way 0 2 1;");
        Check.due("HIGHEST of several", like.psalm(0, 0, 1, 1), 1);
        Check.due("HIGHEST is no matter of numbers", with("hut 5;hut 6;hut 9;way 0 1 1;way 0 2 1;").psalm(0, 0, 1, 1), 2);
        Check.due("up by an ECHO", with("hut 5;hut 6;echo 0 1;").psalm(0, 1, 0, 0), 3);
        Check.due("HIGHEST by an ECHO", with("hut 5;hut 6;echo 0 1;").psalm(0, 1, 0, 1), 1);
        Check.due("from no DAM", with("hut 9;hut 6;way 0 1 1;dam 0;").psalm(0, 1, 9, 0), 2);
    }

    // 25: "by a noon, 0 .. 99 .. (1, 2: NONE: from none). -2: there is none such (of either), another noon, or for another what."
    private static void psalmEdges() {
        DownhillSong x = with("hut 9;hut 8;way 0 1 1;dam 1;");
        Check.due("a DAM", x.psalm(0, 1, 99, 0), 0);
        Check.due("a DAM", x.psalm(0, 1, 99, 1), -1);
        Check.due("a DAM", x.psalm(0, 1, 99, 2), -1);
        for (int what = 0; what < 3; what++) {
            Check.due("noon 0", x.psalm(0, 0, 0, what), what == 0 ? 1 : 0);
            Check.due("noon 99", x.psalm(0, 0, 99, what), new int[] {1, 0, 99}[what]);
            for (int noon : new int[] {-1, 100, Integer.MAX_VALUE, Integer.MIN_VALUE}) {
                Check.due("noon " + noon, x.psalm(0, 0, noon, what), -2);
                Check.due("noon " + noon + " of a DAM", x.psalm(0, 1, noon, what), -2);
            }
            for (int no : new int[] {-1, 2, 8, 9, Integer.MAX_VALUE, Integer.MIN_VALUE}) {
                Check.due("HUT " + no, x.psalm(0, no, 0, what), -2);
                Check.due("LAND " + no, x.psalm(no, 0, 0, what), -2);
            }
            Check.due("LAND 1", x.psalm(1, 0, 0, what), -2);
        }
        for (int what : new int[] {-1, 3, Integer.MAX_VALUE, Integer.MIN_VALUE}) {
            Check.due("what " + what, x.psalm(0, 0, 0, what), -2);
        }
    }

    // Terms 6: "MEET .. the HUT at which the later one of both is soonest, of several the least; that minute"
    private static void meetSoonest() {
        String line = LINE + "singer 0 0;singer 8 0;singer 7 0;singer 0 9;dam 4;dam 0;";
        DownhillSong x = with(line);
        Check.due("in the middle, a DAM", x.meet(0, 0, 1, false), 4);
        Check.due("36 minutes each", x.meet(0, 0, 1, true), 36);
        Check.due("of HUTS 3 and 4 the least", x.meet(0, 2, 0, false), 3);
        Check.due("the later one", x.meet(0, 2, 0, true), 36);
        Check.due("in one HUT", x.meet(0, 3, 0, false), 0);
        Check.due("at once", x.meet(0, 3, 0, true), 0);
        Check.due("apart", with("hut 1;hut 2;echo 0 1;singer 0 0;singer 1 0;").meet(0, 0, 1, false), -1);
        Check.due("apart", with("hut 1;hut 2;echo 0 1;singer 0 0;singer 1 0;").meet(0, 0, 1, true), -1);
    }

    // 26: "NONE: never, both are one, or there is none such (of any)"
    private static void meetEdges() {
        DownhillSong x = with("hut 1;hut 2;way 0 1 3;singer 0 0;singer 1 0;");
        for (boolean minute : new boolean[] {false, true}) {
            Check.due("both are one", x.meet(0, 1, 1, minute), -1);
            for (int no : new int[] {-1, 2, 5, 6, Integer.MAX_VALUE, Integer.MIN_VALUE}) {
                Check.due("a " + no, x.meet(0, no, 0, minute), -1);
                Check.due("b " + no, x.meet(0, 0, no, minute), -1);
                Check.due("LAND " + no, x.meet(no, 0, 1, minute), -1);
            }
            Check.due("LAND 1", x.meet(1, 0, 1, minute), -1);
        }
        DownhillSong six = with("hut 1;" + "singer 0 0;".repeat(6));
        Check.due("SINGERS 4 and 5", six.meet(0, 4, 5, false), 0);
    }

    // Terms 6: "CARRY .. he walks to a HUT that is no DAM, and begins there: the HUT by which a SONG is soonest at the last VILLAGE"
    private static void carrySoonest() {
        DownhillSong up = with(LINE + "village 0;village 8;singer 8 0;");
        Check.due("all the way up", up.carry(0, 0, false), 0);
        Check.due("and down", up.carry(0, 0, true), 144);
        DownhillSong dam = with("hut 9;hut 9;hut 1;way 0 2 1;way 1 2 2;way 0 1 1;village 2;dam 0;singer 0 0;");
        Check.due("not in the DAM in which he is", dam.carry(0, 0, false), 2);
        Check.due("he is there himself", dam.carry(0, 0, true), 1);
        DownhillSong several = with("hut 5;hut 9;hut 9;hut 1;way 0 1 2;way 0 2 2;way 1 3 3;way 2 3 3;village 3;singer 0 0;");
        Check.due("of several the least: 1, 2, 3 by 5", several.carry(0, 0, false), 1);
        Check.due("its minute", several.carry(0, 0, true), 5);
        DownhillSong mute = with("hut 9;hut 5;hut 4;way 0 1 1;way 0 2 1;village 1;village 2;dam 2;singer 0 0;");
        Check.due("a VILLAGE that is a DAM is left out", mute.carry(0, 0, false), 0);
        Check.due("a VILLAGE that is a DAM is left out", mute.carry(0, 0, true), 1);
        DownhillSong none = with("hut 9;hut 5;way 0 1 3;dam 0;singer 0 0;");
        Check.due("without VILLAGES", none.carry(0, 0, false), 1);
        Check.due("without VILLAGES", none.carry(0, 0, true), 3);
    }

    // 27: "NONE: by none, or there is none such (of either)"
    private static void carryEdges() {
        DownhillSong x = with("hut 1;hut 2;village 1;singer 0 0;singer 1 0;");
        for (boolean minute : new boolean[] {false, true}) {
            Check.due("by none", x.carry(0, 0, minute), -1);
            Check.due("he is there", x.carry(0, 1, minute), minute ? 0 : 1);
            Check.due("all DAMS", with("hut 1;dam 0;singer 0 0;").carry(0, 0, minute), -1);
            for (int no : new int[] {-1, 2, 5, 6, Integer.MAX_VALUE, Integer.MIN_VALUE}) {
                Check.due("SINGER " + no, x.carry(0, no, minute), -1);
                Check.due("LAND " + no, x.carry(no, 1, minute), -1);
            }
            Check.due("LAND 1", x.carry(1, 1, minute), -1);
        }
    }

    // Terms 6: "JOIN .. the HUT to which SONGS begun at both at once come, where the later one is soonest, of several the least"
    private static void joinSoonest() {
        DownhillSong x = with("hut 9;hut 9;hut 5;hut 5;hut 1;way 0 2 3;way 1 2 4;way 0 3 4;way 1 3 1;way 2 4 1;way 3 4 1;");
        Check.due("of two the least", x.join(0, 0, 1, false), 2);
        Check.due("the later one", x.join(0, 0, 1, true), 4);
        Check.due("the other way round", x.join(0, 1, 0, false), 2);
        Check.due("one above the other", x.join(0, 0, 4, false), 4);
        Check.due("one above the other", x.join(0, 0, 4, true), 4);
        Check.due("with itself", x.join(0, 3, 3, false), 3);
        Check.due("at once", x.join(0, 3, 3, true), 0);
        Check.due("with itself by an ECHO to a lesser HUT", with("hut 9;hut 9;echo 1 0;").join(0, 1, 1, false), 0);
        Check.due("by an ECHO", with("hut 9;hut 9;hut 9;echo 0 2;echo 1 2;").join(0, 0, 1, false), 2);
        Check.due("72 minutes", with(LINE).join(0, 0, 8, true), 72);
    }

    // 28: "NONE: never, one is a DAM, or there is none such (of any)"
    private static void joinEdges() {
        DownhillSong x = with("hut 9;hut 9;hut 5;way 0 2 3;dam 1;");
        DownhillSong apart = with("hut 9;hut 9;");
        for (boolean minute : new boolean[] {false, true}) {
            Check.due("never", apart.join(0, 0, 1, minute), -1);
            Check.due("a DAM", x.join(0, 0, 1, minute), -1);
            Check.due("a DAM", x.join(0, 1, 0, minute), -1);
            Check.due("a DAM with itself", x.join(0, 1, 1, minute), -1);
            for (int no : new int[] {-1, 3, 8, 9, Integer.MAX_VALUE, Integer.MIN_VALUE}) {
                Check.due("a " + no, x.join(0, no, 0, minute), -1);
                Check.due("b " + no, x.join(0, 0, no, minute), -1);
                Check.due("LAND " + no, x.join(no, 0, 2, minute), -1);
            }
            Check.due("LAND 1", x.join(1, 0, 2, minute), -1);
        }
    }

    // Terms 6: "TOPS: HUTS (bits; no DAM) to which a SONG comes from no other HUT; ENDS: those (no DAM) from which it comes to no other"
    private static void topsAndEnds() {
        slopes(LINE, 1, 256);
        slopes(LINE + "dam 0;", 2, 256);
        slopes(LINE + "dam 4;", 33, 264);
        slopes(LINE + "echo 8 0;", 0, 0);
        slopes(LINE + "echo 7 0;", 0, 256);
        slopes("hut 1;hut 1;way 0 1 1;", 3, 3);
        slopes("hut 1;", 1, 1);
        slopes("hut 1;dam 0;", 0, 0);
        slopes("hut 1;hut 2;echo 0 1;dam 1;", 1, 1);
    }

    private static void slopes(String land, int tops, int ends) {
        Check.due("TOPS of " + land, with(land).slopes(0, 0), tops);
        Check.due("ENDS of " + land, with(land).slopes(0, 1), ends);
    }

    // Terms 6: "COUPLES: of two unlike HUTS how often a SONG comes from one to the other; DEPTH: the most WAYS of any ROUTE"
    private static void couplesAndDepth() {
        Check.due("COUPLES", with(LINE).slopes(0, 2), 36);
        Check.due("COUPLES round", with(LINE + "echo 8 0;").slopes(0, 2), 72);
        Check.due("COUPLES of two", with("hut 1;hut 2;echo 0 1;echo 1 0;").slopes(0, 2), 2);
        Check.due("COUPLES of none", with("hut 1;hut 1;way 0 1 1;").slopes(0, 2), 0);
        Check.due("COUPLES of a DAM", with(LINE + "dam 4;").slopes(0, 2), 12);
        Check.due("DEPTH", with(LINE).slopes(0, 3), 8);
        Check.due("DEPTH of a DAM", with(LINE + "dam 3;").slopes(0, 3), 4);
        Check.due("DEPTH without ROUTES", with("hut 1;hut 1;way 0 1 1;echo 0 1;").slopes(0, 3), 0);
        Check.due("DEPTH down to HUT 0", with("hut 0;hut 1;hut 2;way 0 1 1;way 1 2 1;").slopes(0, 3), 2);
        Check.due("DEPTH of one WAY to HUT 0", with("hut 0;hut 1;way 0 1 1;").slopes(0, 3), 1);
    }

    // 29: "NONE: there is none such, or for another what"
    private static void slopesEdges() {
        DownhillSong x = with(LINE);
        for (int what : new int[] {-1, 4, 5, Integer.MAX_VALUE, Integer.MIN_VALUE}) {
            Check.due("what " + what, x.slopes(0, what), -1);
        }
        for (int what = 0; what < 4; what++) {
            for (int no : new int[] {-1, 1, 2, Integer.MAX_VALUE, Integer.MIN_VALUE}) {
                Check.due("LAND " + no, x.slopes(no, what), -1);
            }
        }
    }

    // Terms 6: "FLOOD of two HUTS: the fewest further DAMS (neither of the two; bits, of several the least)"
    private static void floodFewest() {
        DownhillSong line = with(LINE);
        for (int a = 0; a < 9; a++) {
            for (int b = 0; b < 9; b++) {
                int want = a == b || b == a + 1 ? -1 : b < a ? 0 : 1 << a + 1;
                Check.due("FLOOD " + a + " " + b, line.flood(0, a, b, true), want);
                Check.due("FLOOD " + a + " " + b, line.flood(0, a, b, false), want == -1 ? -1 : Integer.bitCount(want));
            }
        }
        // One that is not the least number is fewer than two of lesser numbers.
        DownhillSong neck = with("hut 7;hut 7;hut 9;hut 5;hut 1;way 2 0 1;way 2 1 1;way 0 3 1;way 1 3 1;way 3 4 1;");
        Check.due("the neck", neck.flood(0, 2, 4, true), 8);
        Check.due("the neck", neck.flood(0, 2, 4, false), 1);
        Check.due("both sides", neck.flood(0, 2, 3, true), 3);
        Check.due("both sides", neck.flood(0, 2, 3, false), 2);
        // All that can be: seven HUTS side by side.
        StringBuilder wide = new StringBuilder("hut 9;hut 1;");
        for (int h = 2; h < 9; h++) {
            wide.append("hut 5;way 0 ").append(h).append(" 1;way ").append(h).append(" 1 1;");
        }
        Check.due("seven", with(wide.toString()).flood(0, 0, 1, true), 508);
        Check.due("seven", with(wide.toString()).flood(0, 0, 1, false), 7);
        Check.due("six, one is a DAM already", with(wide + "dam 8;").flood(0, 0, 1, true), 252);
        Check.due("none, all are", with(wide + "dam 2;dam 3;dam 4;dam 5;dam 6;dam 7;dam 8;").flood(0, 0, 1, true), 0);
        Check.due("the two next to one another", with(wide + "way 0 1 9;").flood(0, 0, 1, true), -1);
        Check.due("ECHOES, too", with("hut 1;hut 2;hut 3;echo 0 1;echo 1 2;").flood(0, 0, 2, true), 2);
    }

    // 30: "NONE: by none, one is a DAM, both are one, or there is none such (of any)"
    private static void floodEdges() {
        DownhillSong x = with("hut 9;hut 8;hut 7;way 0 1 1;dam 2;");
        for (boolean bits : new boolean[] {false, true}) {
            Check.due("by none", x.flood(0, 0, 1, bits), -1);
            Check.due("it does not come", x.flood(0, 1, 0, bits), 0);
            Check.due("to a DAM", x.flood(0, 0, 2, bits), -1);
            Check.due("from a DAM", x.flood(0, 2, 0, bits), -1);
            Check.due("both are one", x.flood(0, 0, 0, bits), -1);
            for (int no : new int[] {-1, 3, 8, 9, Integer.MAX_VALUE, Integer.MIN_VALUE}) {
                Check.due("from " + no, x.flood(0, no, 0, bits), -1);
                Check.due("to " + no, x.flood(0, 0, no, bits), -1);
                Check.due("LAND " + no, x.flood(no, 1, 0, bits), -1);
            }
            Check.due("LAND 1", x.flood(1, 1, 0, bits), -1);
        }
    }

    // 11 to 16, 18, 25 to 30: of two LANDS and two SIGHTS each is asked on its own, in any order
    private static void theSecondLand() {
        String[] lands = {LINE + "village 8;singer 0 0;singer 4 0;dam 6;", "hut 4;hut 9;way 0 1 2;singer 1 0;singer 0 0;village 0;",
            LINE.replaceAll("way 0 1 9;.*", "") + "echo 8 0;echo 0 7;way 7 2 3;way 2 4 5;singer 8 0;singer 0 0;village 0;village 7;",
            "hut 9;hut 9;hut 9;"};
        String[] sights = {"heard 1 9;", "mute 0 0;"};
        for (int a = 0; a < lands.length; a++) {
            for (int b = 0; b < lands.length; b++) {
                DownhillSong x = Check.with(lands[a], null, sights[0], null);
                Check.told(x, 0, lands[b]);
                Check.told(x, 2, sights[1]);
                String first = asked(Check.with(lands[a], null, sights[0], null), 0, 0);
                String second = asked(Check.with(lands[b], null, sights[1], null), 0, 0);
                Check.due("the first", asked(x, 0, 0).equals(first), true);
                Check.due("the second", asked(x, 1, 1).equals(second), true);
                Check.due("the first, once more", asked(x, 0, 0).equals(first), true);
                Check.due("unlike ones", a != b && first.equals(second), false);
            }
        }
    }

    /** All that can be asked of a LAND. */
    private static String asked(DownhillSong x, int land, int sight) {
        StringBuilder all = new StringBuilder().append(x.fits(land, sight, false)).append(' ').append(x.fits(land, sight, true));
        for (int a = 0; a < 9; a++) {
            for (int b = 0; b < 9; b++) {
                int[] got = {x.comes(land, a, b), x.routes(land, a, b, 0), x.routes(land, a, b, 1), x.routes(land, a, b, 2),
                    x.mutes(land, a, b), x.meet(land, a, b, false), x.meet(land, a, b, true), x.join(land, a, b, false),
                    x.join(land, a, b, true), x.flood(land, a, b, true), x.psalm(land, a, 11 * b, 0), x.psalm(land, a, 11 * b, 1)};
                for (int n : got) {
                    all.append(' ').append(n);
                }
            }
            int[] got = {x.mutes(land, a, -1), x.villages(land, 11 * a, 0), x.villages(land, 11 * a, 1), x.masses(land, 11 * a, true),
                x.carry(land, a, false), x.carry(land, a, true), x.slopes(land, a % 4), x.best(land, a % 2 == 0)};
            for (int n : got) {
                all.append(' ').append(n);
            }
        }
        return all.toString();
    }

    // Terms 1: a LAND without HUTS is one, too
    private static void emptyLand() {
        DownhillSong x = with("");
        Check.due("comes", x.comes(0, 0, 0), -1);
        Check.due("ALL", x.villages(0, 99, 0), 0);
        Check.due("CREW", x.villages(0, 0, 1), 0);
        Check.due("BEST", x.best(0, false), -1);
        Check.due("routes", x.routes(0, 0, 1, 0), -2);
        Check.due("mutes", x.mutes(0, 0, -1), -2);
        Check.due("MASSES", x.masses(0, 0, false), 0);
        Check.due("psalm", x.psalm(0, 0, 0, 0), -2);
        Check.due("meet", x.meet(0, 0, 1, false), -1);
        Check.due("carry", x.carry(0, 0, false), -1);
        Check.due("join", x.join(0, 0, 0, false), -1);
        for (int what = 0; what < 4; what++) {
            Check.due("slopes " + what, x.slopes(0, what), 0);
        }
        Check.due("flood", x.flood(0, 0, 1, false), -1);
    }
}
