/** Promises 11 to 16, 18, 25 to 30: how SONGS and SINGERS go through a LAND. */
public final class SlopeTest {
    public static void main(String[] args) {
        wholeLand();
        dams();
        echoes();
        bests();
        crews();
        manyRoutes();
        mutes();
        masses();
        sights();
        psalms();
        meetings();
        carries();
        joins();
        tops();
        floods();
        noneSuch();
        Check.finish();
    }

    private static DownhillSong with(String land) {
        DownhillSong x = new DownhillSong();
        Check.told(x, Check.LAND, land);
        return x;
    }

    private static void wholeLand() {
        DownhillSong x = with(EveningTest.LAND);
        int[] comes = {0, 2, 5, 6, 4, -1, 0, 3, 4, 4, -1, -1, 0, 1, 1, -1, -1, 2, 0, 0, -1, -1, 2, 3, 0};
        for (int a = 0; a < 5; a++) {
            for (int b = 0; b < 5; b++) {
                Check.due("comes " + a + " " + b, x.comes(0, a, b), comes[5 * a + b]);
            }
        }
        int[] all = {0, 4, 12, 28, 30, 30, 31, 31};
        int[] crew = {12, 4, 4, 4, 2, 2, 1, 1};
        for (int minute = 0; minute < 8; minute++) {
            Check.due("ALL by " + minute, x.villages(0, minute, 0), all[minute]);
            Check.due("CREW by " + minute, x.villages(0, minute, 1), crew[minute]);
        }
        Check.due("BEST", x.best(0, false), 2);
        Check.due("BEST minute", x.best(0, true), 1);
        Check.due("ROUTES 0 3", x.routes(0, 0, 3, 0), 3);
        Check.due("LONGEST 0 3", x.routes(0, 0, 3, 1), 3);
        Check.due("STEEP 0 3", x.routes(0, 0, 3, 2), 10);
        Check.due("ROUTES 4 1", x.routes(0, 4, 1, 0), 0);
        Check.due("LONGEST 4 1", x.routes(0, 4, 1, 1), -1);
        Check.due("STEEP 4 1", x.routes(0, 4, 1, 2), -1);
        Check.due("ROUTES 3 4: no ECHOES", x.routes(0, 3, 4, 0), 0);
        Check.due("MUTES", x.mutes(0, 1, 3), 1);
        Check.due("WORST of 1", x.mutes(0, 1, -1), 3);
        Check.due("WORST of 0: all mute none", x.mutes(0, 0, -1), 1);
        Check.due("MASSES 0", x.masses(0, 0, true), 12);
        Check.due("MASSES 0", x.masses(0, 0, false), 2);
        Check.due("MASSES 1", x.masses(0, 1, true), 4);
        Check.due("MASSES 99", x.masses(0, 99, true), 1);
        Check.due("MEET", x.meet(0, 0, 1, false), 0);
        Check.due("MEET minute", x.meet(0, 0, 1, true), 2);
        Check.due("CARRY", x.carry(0, 0, false), 0);
        Check.due("CARRY minute", x.carry(0, 0, true), 6);
        Check.due("JOIN", x.join(0, 0, 1, false), 1);
        Check.due("JOIN minute", x.join(0, 0, 1, true), 2);
        Check.due("TOPS", x.slopes(0, 0), 1);
        Check.due("ENDS", x.slopes(0, 1), 0);
        Check.due("COUPLES", x.slopes(0, 2), 13);
        Check.due("DEPTH", x.slopes(0, 3), 3);
        Check.due("FLOOD", x.flood(0, 0, 3, false), 2);
        Check.due("FLOOD bits", x.flood(0, 0, 3, true), 6);
        Check.due("PSALM", x.psalm(0, 3, 4, 0), 30);
        Check.due("HIGHEST", x.psalm(0, 3, 4, 1), 4);
        Check.due("LATE", x.psalm(0, 3, 4, 2), 4);
        Check.told(x, Check.SIGHT, "heard 3 5;mute 2 2;");
        Check.due("FITS", x.fits(0, 0, false), 2);
        Check.due("ASK", x.fits(0, 0, true), 0);
    }

    private static void dams() {
        DownhillSong x = with("hut 9;hut 5;hut 1;way 0 1 1;way 1 2 1;dam 1;village 1;village 2;");
        Check.due("through a DAM", x.comes(0, 0, 2), -1);
        Check.due("to a DAM", x.comes(0, 0, 1), -1);
        Check.due("from a DAM", x.comes(0, 1, 2), -1);
        Check.due("DAM itself", x.comes(0, 1, 1), -1);
        Check.due("no DAM itself", x.comes(0, 0, 0), 0);
        Check.due("ALL", x.villages(0, 99, 0), 4);
        Check.due("BEST", x.best(0, false), 2);
        Check.due("BEST minute", x.best(0, true), 0);
        Check.due("CREW: never to a VILLAGE that is a DAM", x.villages(0, 99, 1), -1);
        Check.due("ROUTES", x.routes(0, 0, 2, 0), 0);
        Check.due("ROUTES to a DAM", x.routes(0, 0, 1, 0), 0);
        Check.due("STEEP to a DAM", x.routes(0, 0, 1, 2), -1);
        Check.due("DEPTH", x.slopes(0, 3), 0);
        Check.due("TOPS", x.slopes(0, 0), 5);
        Check.due("ENDS", x.slopes(0, 1), 5);
        Check.due("COUPLES", x.slopes(0, 2), 0);
    }

    private static void echoes() {
        DownhillSong x = with("hut 5;hut 9;hut 9;hut 1;way 1 3 4;echo 0 1;echo 1 2;way 1 2 3;");
        Check.due("up by an ECHO", x.comes(0, 0, 1), 0);
        Check.due("by two ECHOES", x.comes(0, 0, 2), 0);
        Check.due("and on downhill", x.comes(0, 0, 3), 4);
        Check.due("not back", x.comes(0, 1, 0), -1);
        Check.due("no WAY between like HEIGHTS", x.comes(0, 2, 1), -1);
        Check.due("ECHO is quicker than a WAY", with("hut 9;hut 5;way 0 1 3;echo 0 1;").comes(0, 0, 1), 0);
        DownhillSong dam = with("hut 5;hut 9;hut 7;echo 0 1;echo 1 2;dam 1;");
        Check.due("no ECHO to a DAM", dam.comes(0, 0, 1), -1);
        Check.due("nor on from it", dam.comes(0, 0, 2), -1);
        Check.due("nor from one", dam.comes(0, 1, 2), -1);
    }

    private static void bests() {
        DownhillSong none = with("hut 5;hut 6;village 0;village 1;");
        Check.due("BEST from none", none.best(0, false), -1);
        Check.due("BEST minute from none", none.best(0, true), -1);
        Check.due("ALL from none", none.villages(0, 99, 0), 0);
        DownhillSong without = with("hut 5;hut 6;hut 7;dam 0;village 0;");
        Check.due("BEST without VILLAGES", without.best(0, false), 1);
        Check.due("BEST minute without", without.best(0, true), 0);
        Check.due("ALL without", without.villages(0, 0, 0), 6);
        Check.due("BEST of DAMS alone", with("hut 5;dam 0;").best(0, false), -1);
        DownhillSong several = with("hut 9;hut 9;hut 5;hut 5;way 0 2 3;way 0 3 4;way 1 2 4;way 1 3 1;village 2;village 3;");
        Check.due("BEST of several", several.best(0, false), 0);
        Check.due("its minute", several.best(0, true), 4);
        Check.due("ALL by 3", several.villages(0, 3, 0), 0);
        Check.due("ALL by 4", several.villages(0, 4, 0), 3);
    }

    private static void crews() {
        DownhillSong x = with("hut 9;hut 9;hut 5;hut 5;hut 1;way 0 2 3;way 0 3 4;way 1 3 1;way 1 4 1;village 2;village 3;village 4;");
        Check.due("CREW by 0", x.villages(0, 0, 1), 28);
        Check.due("CREW by 1", x.villages(0, 1, 1), 6);
        Check.due("CREW by 3", x.villages(0, 3, 1), 3);
        Check.due("CREW without VILLAGES", with("hut 1;").villages(0, 0, 1), 0);
        Check.due("minute 100", x.villages(0, 100, 0), -2);
        Check.due("minute -1", x.villages(0, -1, 0), -2);
        Check.due("what 2", x.villages(0, 0, 2), -2);
        Check.due("what -1", x.villages(0, 0, -1), -2);
    }

    private static void manyRoutes() {
        StringBuilder land = new StringBuilder();
        for (int a = 0; a < 9; a++) {
            land.append("hut ").append(90 - a * a).append(';');
            for (int b = 0; b < a; b++) {
                land.append("way ").append(a).append(' ').append(b).append(" 9;");
            }
        }
        DownhillSong x = with(land.toString());
        Check.due("ROUTES", x.routes(0, 0, 8, 0), 128);
        Check.due("LONGEST", x.routes(0, 0, 8, 1), 8);
        Check.due("STEEP", x.routes(0, 0, 8, 2), 15);
        Check.due("DEPTH", x.slopes(0, 3), 8);
        Check.due("COUPLES", x.slopes(0, 2), 36);
        Check.due("uphill", x.routes(0, 8, 0, 0), 0);
        DownhillSong line = with("hut 8;hut 7;hut 6;hut 5;hut 4;hut 3;hut 2;hut 1;hut 0;way 0 1 9;way 1 2 9;way 2 3 9;way 3 4 9;"
            + "way 4 5 9;way 5 6 9;way 6 7 9;way 7 8 9;singer 0 0;singer 8 0;");
        Check.due("72 minutes", line.comes(0, 0, 8), 72);
        Check.due("MEET in the middle", line.meet(0, 0, 1, false), 4);
        Check.due("MEET in the middle", line.meet(0, 0, 1, true), 36);
    }

    private static void mutes() {
        DownhillSong x = with("hut 9;hut 8;hut 7;hut 6;hut 5;way 0 1 1;way 1 2 1;way 2 3 1;way 1 3 1;dam 4;");
        Check.due("MUTES of 1", x.mutes(0, 0, 1), 2);
        Check.due("MUTES of 2", x.mutes(0, 0, 2), 0);
        Check.due("MUTES of 3", x.mutes(0, 0, 3), 0);
        Check.due("WORST", x.mutes(0, 0, -1), 1);
        Check.due("WORST from 3", x.mutes(0, 3, -1), 0);
        Check.due("a is a DAM", x.mutes(0, 4, 0), -2);
        Check.due("a is a DAM, WORST", x.mutes(0, 4, -1), -2);
        Check.due("a DAM", x.mutes(0, 0, 4), -2);
        Check.due("both are one", x.mutes(0, 1, 1), -2);
        Check.due("no HUT", x.mutes(0, 0, 5), -2);
        Check.due("no HUT", x.mutes(0, 0, -2), -2);
        Check.due("no a", x.mutes(0, 5, 0), -2);
        Check.due("no a", x.mutes(0, -1, 0), -2);
        Check.due("no HUT but a", with("hut 1;hut 2;dam 1;").mutes(0, 0, -1), -1);
    }

    private static void masses() {
        DownhillSong x = with("hut 9;hut 8;hut 7;hut 6;way 0 1 2;way 1 2 2;way 2 3 3;village 0;village 2;village 3;dam 1;dam 2;");
        Check.due("k 0", x.masses(0, 0, true), 13);
        Check.due("k 1", x.masses(0, 1, false), 3);
        Check.due("k 2", x.masses(0, 2, true), 10);
        Check.due("k 3", x.masses(0, 3, true), 5);
        Check.due("k 4", x.masses(0, 4, true), 4);
        Check.due("k 7", x.masses(0, 7, true), 1);
        Check.due("k 100", x.masses(0, 100, true), -1);
        Check.due("k -1", x.masses(0, -1, false), -1);
        Check.due("without VILLAGES", with("hut 1;").masses(0, 0, false), 0);
        Check.due("apart", with("hut 1;hut 1;village 0;village 1;").masses(0, 99, true), 3);
    }

    private static void sights() {
        DownhillSong x = with("hut 9;hut 8;hut 7;hut 6;way 0 1 2;way 1 2 2;way 2 3 3;hut 5;dam 4;");
        Check.told(x, Check.SIGHT, "");
        Check.due("all but the DAM", x.fits(0, 0, false), 15);
        Check.due("ASK parts them in halves: HUT 1 by minute 2", x.fits(0, 0, true), 21);
        Check.tell(x, Check.SIGHT, 0, "heard 2 2;");
        Check.due("that minute, too", x.fits(0, 0, false), 6);
        Check.due("ASK", x.fits(0, 0, true), 1);
        Check.tell(x, Check.SIGHT, 0, "mute 2 2;");
        Check.due("at that minute neither", x.fits(0, 0, false), 9);
        Check.due("ASK", x.fits(0, 0, true), 0);
        Check.tell(x, Check.SIGHT, 0, "mute 4 60;");
        Check.due("a DAM is mute", x.fits(0, 0, false), 15);
        Check.tell(x, Check.SIGHT, 0, "heard 4 60;");
        Check.due("a DAM is never heard", x.fits(0, 0, false), 0);
        Check.due("ASK of none", x.fits(0, 0, true), -1);
        Check.tell(x, Check.SIGHT, 0, "heard 5 60;");
        Check.due("HUT that is not there", x.fits(0, 0, false), -2);
        Check.due("HUT that is not there", x.fits(0, 0, true), -2);
        Check.due("no LAND", x.fits(1, 0, false), -2);
        Check.due("no SIGHT", x.fits(0, 1, false), -2);
    }

    private static void psalms() {
        DownhillSong x = with("hut 9;hut 8;hut 8;hut 6;hut 5;way 0 1 2;way 1 3 2;way 2 3 3;way 3 4 1;dam 4;");
        Check.due("by 0", x.psalm(0, 3, 0, 0), 8);
        Check.due("by 2", x.psalm(0, 3, 2, 0), 10);
        Check.due("by 3", x.psalm(0, 3, 3, 0), 14);
        Check.due("by 4", x.psalm(0, 3, 4, 0), 15);
        Check.due("HIGHEST by 0", x.psalm(0, 3, 0, 1), 3);
        Check.due("HIGHEST by 3, of two", x.psalm(0, 3, 3, 1), 1);
        Check.due("HIGHEST by 4", x.psalm(0, 3, 4, 1), 0);
        Check.due("LATE by 0", x.psalm(0, 3, 0, 2), 0);
        Check.due("LATE by 99", x.psalm(0, 3, 99, 2), 99);
        Check.due("DAM", x.psalm(0, 4, 99, 0), 0);
        Check.due("DAM, HIGHEST", x.psalm(0, 4, 99, 1), -1);
        Check.due("DAM, LATE", x.psalm(0, 4, 99, 2), -1);
        Check.due("noon 100", x.psalm(0, 3, 100, 0), -2);
        Check.due("noon -1", x.psalm(0, 3, -1, 0), -2);
        Check.due("what 3", x.psalm(0, 3, 0, 3), -2);
        Check.due("what -1", x.psalm(0, 3, 0, -1), -2);
        Check.due("no HUT", x.psalm(0, 5, 0, 0), -2);
        Check.due("no HUT", x.psalm(0, -1, 0, 0), -2);
    }

    private static void meetings() {
        DownhillSong x = with("hut 9;hut 8;hut 7;hut 6;way 0 1 2;way 1 2 3;dam 1;singer 0 0;singer 2 0;singer 3 0;singer 0 1;");
        Check.due("at a DAM, too", x.meet(0, 0, 1, false), 1);
        Check.due("its minute", x.meet(0, 0, 1, true), 3);
        Check.due("the other way round", x.meet(0, 1, 0, false), 1);
        Check.due("never", x.meet(0, 0, 2, false), -1);
        Check.due("never", x.meet(0, 0, 2, true), -1);
        Check.due("in one HUT", x.meet(0, 0, 3, false), 0);
        Check.due("at once", x.meet(0, 0, 3, true), 0);
        Check.due("both are one", x.meet(0, 0, 0, true), -1);
        Check.due("no SINGER", x.meet(0, 0, 4, true), -1);
        Check.due("no SINGER", x.meet(0, -1, 0, true), -1);
    }

    private static void carries() {
        DownhillSong x = with("hut 1;hut 9;hut 5;hut 3;way 0 1 4;way 1 2 2;way 1 3 2;way 0 2 9;village 2;village 3;village 0;dam 0;singer 0 0;");
        Check.due("up to HUT 1", x.carry(0, 0, false), 1);
        Check.due("and down", x.carry(0, 0, true), 6);
        Check.due("no SINGER", x.carry(0, 1, false), -1);
        Check.due("no SINGER", x.carry(0, -1, false), -1);
        DownhillSong never = with("hut 1;hut 9;village 1;singer 0 0;");
        Check.due("by none", never.carry(0, 0, false), -1);
        Check.due("by none", never.carry(0, 0, true), -1);
        DownhillSong without = with("hut 1;hut 9;hut 8;way 0 2 3;way 0 1 4;dam 0;village 0;singer 0 0;");
        Check.due("without VILLAGES the HUT that is soonest", without.carry(0, 0, false), 2);
        Check.due("without VILLAGES", without.carry(0, 0, true), 3);
    }

    private static void joins() {
        DownhillSong x = with("hut 9;hut 8;hut 5;hut 4;hut 9;way 0 2 5;way 1 2 1;way 0 3 2;way 1 3 4;dam 4;");
        Check.due("JOIN", x.join(0, 0, 1, false), 3);
        Check.due("its minute", x.join(0, 0, 1, true), 4);
        Check.due("with itself", x.join(0, 1, 1, false), 1);
        Check.due("at once", x.join(0, 1, 1, true), 0);
        Check.due("never", x.join(0, 2, 3, false), -1);
        Check.due("never", x.join(0, 2, 3, true), -1);
        Check.due("a DAM", x.join(0, 4, 0, false), -1);
        Check.due("a DAM", x.join(0, 0, 4, true), -1);
        Check.due("a DAM with itself", x.join(0, 4, 4, true), -1);
        Check.due("no HUT", x.join(0, 0, 5, true), -1);
        Check.due("no HUT", x.join(0, -1, 0, true), -1);
    }

    private static void tops() {
        DownhillSong x = with("hut 9;hut 8;hut 5;hut 4;hut 7;hut 1;way 0 1 5;way 1 2 1;way 4 2 2;echo 2 0;dam 5;");
        Check.due("TOPS", x.slopes(0, 0), 24);
        Check.due("ENDS", x.slopes(0, 1), 8);
        Check.due("COUPLES", x.slopes(0, 2), 9);
        Check.due("DEPTH", x.slopes(0, 3), 2);
        Check.due("what 4", x.slopes(0, 4), -1);
        Check.due("what -1", x.slopes(0, -1), -1);
    }

    private static void floods() {
        DownhillSong x = with("hut 9;hut 8;hut 7;hut 6;hut 5;hut 4;way 0 1 1;way 0 2 1;way 1 3 1;way 2 3 1;way 3 4 1;dam 5;echo 4 0;");
        Check.due("0 4", x.flood(0, 0, 4, true), 8);
        Check.due("0 3", x.flood(0, 0, 3, true), 6);
        Check.due("0 3", x.flood(0, 0, 3, false), 2);
        Check.due("by none", x.flood(0, 0, 1, true), -1);
        Check.due("by none", x.flood(0, 0, 1, false), -1);
        Check.due("by an ECHO: by none", x.flood(0, 4, 0, false), -1);
        Check.due("through the ECHO", x.flood(0, 3, 0, true), 16);
        Check.due("it does not come at all", with("hut 1;hut 1;").flood(0, 0, 1, false), 0);
        Check.due("it does not come at all", with("hut 1;hut 1;").flood(0, 0, 1, true), 0);
        Check.due("a DAM", x.flood(0, 0, 5, false), -1);
        Check.due("a DAM", x.flood(0, 5, 0, false), -1);
        Check.due("both are one", x.flood(0, 0, 0, false), -1);
        Check.due("no HUT", x.flood(0, 0, 6, false), -1);
        Check.due("no HUT", x.flood(0, -1, 0, false), -1);
    }

    private static void noneSuch() {
        DownhillSong x = with("hut 9;hut 8;singer 0 0;singer 1 0;");
        for (int no : new int[] {-2, -1, 1, 2, Integer.MAX_VALUE, Integer.MIN_VALUE}) {
            Check.due("comes", x.comes(no, 0, 0), -1);
            Check.due("villages", x.villages(no, 0, 0), -2);
            Check.due("best", x.best(no, false), -1);
            Check.due("routes", x.routes(no, 0, 1, 0), -2);
            Check.due("mutes", x.mutes(no, 0, 1), -2);
            Check.due("masses", x.masses(no, 0, true), -1);
            Check.due("psalm", x.psalm(no, 0, 0, 0), -2);
            Check.due("meet", x.meet(no, 0, 1, true), -1);
            Check.due("carry", x.carry(no, 0, true), -1);
            Check.due("join", x.join(no, 0, 1, true), -1);
            Check.due("slopes", x.slopes(no, 0), -1);
            Check.due("flood", x.flood(no, 0, 1, true), -1);
            if (no != 1) {
                Check.due("comes from " + no, x.comes(0, no, 0), -1);
                Check.due("comes to " + no, x.comes(0, 0, no), -1);
                Check.due("routes from " + no, x.routes(0, no, 0, 0), -2);
                Check.due("routes to " + no, x.routes(0, 0, no, 0), -2);
            }
        }
        Check.due("routes, both are one", x.routes(0, 1, 1, 0), -2);
        Check.due("routes what 3", x.routes(0, 0, 1, 3), -2);
        Check.due("routes what -1", x.routes(0, 0, 1, -1), -2);
    }
}
