/** Promises 1 to 8, 17, 32 to 34: the tape, the texts with their FAULTS, images. */
public final class TextsTest {
    public static void main(String[] args) {
        newObject();
        tape();
        wholeTape();
        textPlaces();
        firstFaults();
        numbersThatCannotBe();
        tooMany();
        notThere();
        tokens();
        emptyTexts();
        lands();
        echoes();
        deeds();
        facts();
        images();
        imageOfEverySort();
        Check.finish();
    }

    private static void newObject() {
        DownhillSong x = new DownhillSong();
        for (int sort = 0; sort < 4; sort++) {
            Check.due("count of a new one", x.count(sort), 0);
        }
        Check.due("count(4)", x.count(4), -2);
        Check.due("count(-1)", x.count(-1), -2);
        Check.due("fault(0)", x.fault(0), 0);
        Check.due("fault(1)", x.fault(1), -1);
        Check.due("fault(2)", x.fault(2), -1);
        Check.due("fault(-1)", x.fault(-1), -1);
        for (int k = -1; k < 4; k++) {
            Check.due("again(" + k + ") of a new one", x.again(k), false);
        }
        Check.due("NONE", DownhillSong.NONE, -1);
        Check.due("end(0)", x.end(0), 0);
        Check.due("end(1)", x.end(1), -1);
    }

    private static void tape() {
        DownhillSong x = new DownhillSong();
        for (int n = 20; n <= 600; n += 20) {
            Check.due("feed to " + n, x.feed(0, 0, 0, 0, 0), n);
        }
        Check.due("feed to 620", x.feed(1, 2, 3, 4, 5), -1);
        Check.due("end(601)", x.end(601), -1);
        Check.due("end(-1)", x.end(-1), -1);
        Check.due("end(600)", x.end(600), 600);
        Check.due("end(581)", x.end(581), 581);
        Check.due("feed to 601", x.feed(1, 2, 3, 4, 5), -1);
        Check.due("end(582)", x.end(582), -1);
        Check.due("end(580)", x.end(580), 580);
        Check.due("feed to 600", x.feed(1, 2, 3, 4, 5), 600);
        Check.due("end(Integer.MAX_VALUE)", x.end(Integer.MAX_VALUE), -1);
        Check.due("end(Integer.MIN_VALUE)", x.end(Integer.MIN_VALUE), -1);
        Check.due("text of zeros", x.text(0, -1), -1);
        Check.due("fault", x.fault(0), 1);
        Check.due("place", x.fault(1), 0);
        Check.due("the tape is empty", x.feed(0, 0, 0, 0, 0), 20);
    }

    private static void wholeTape() {
        String text = Check.repeat("deep 3 ;  ", 59) + "slide 1  ;";
        Check.good(Check.LAND, text);
        Check.faulty(Check.LAND, text.substring(0, 599) + "!", 1, 599);
        Check.faulty(Check.LAND, text.substring(0, 599), 1, 599);
    }

    private static void textPlaces() {
        DownhillSong x = new DownhillSong();
        notRead(x, 4, -1);
        notRead(x, -1, -1);
        notRead(x, Integer.MAX_VALUE, -1);
        notRead(x, Integer.MIN_VALUE, 0);
        for (int sort = 0; sort < 4; sort++) {
            notRead(x, sort, 0);
            notRead(x, sort, -2);
            notRead(x, sort, Integer.MAX_VALUE);
        }
        Check.due("FAULT", Check.tell(x, 0, -1, "hut 7"), -1);
        Check.due("FAULT", x.fault(0), 1);
        Check.due("place", x.fault(1), 5);
        Check.due("text(7)", x.text(7, -1), -2);
        Check.due("FAULT 0 again", x.fault(0), 0);
        Check.due("no place", x.fault(1), -1);
        Check.due("first", Check.tell(x, 0, -1, "hut 1;"), 0);
        Check.due("second", Check.tell(x, 0, -1, "hut 2;"), 1);
        notRead(x, 0, -1);
        notRead(x, 0, 2);
        Check.due("third", Check.tell(x, 0, -1, "hut 3;"), -2);
        Check.due("in the place of 0", Check.tell(x, 0, 0, "hut 4;hut 5;"), 0);
        Check.due("in the place of 2", Check.tell(x, 0, 2, "hut 4;"), -2);
        Check.due("count", x.count(0), 2);
        Check.due("land 0", x.land(0, 11), 5);
        Check.due("land 1", x.land(1, 10), 2);
        Check.due("with a FAULT", Check.tell(x, 0, 1, "hut 9;hut;"), -1);
        Check.due("land 1 stays", x.land(1, 10), 2);
        Check.due("land 1 has one HUT", x.land(1, 0), 1);
        Check.due("no other sort", x.count(1) + x.count(2) + x.count(3), 0);
    }

    /** text() that answers -2: no text is read, but the tape is taken. */
    private static void notRead(DownhillSong x, int sort, int at) {
        String call = "text(" + sort + ", " + at + ")";
        Check.tape(x, "hut 7");
        Check.due(call, x.text(sort, at), -2);
        Check.due("FAULT of " + call, x.fault(0), 0);
        Check.due("place of " + call, x.fault(1), -1);
        Check.due("the tape is taken by " + call, x.feed(0, 0, 0, 0, 0), 20);
        Check.due("the tape's end", x.end(0), 0);
    }

    private static void firstFaults() {
        Check.faulty(Check.LAND, "hut 100;", 1, 4);
        Check.faulty(Check.LAND, "hut 5", 1, 5);
        Check.faulty(Check.LAND, "hut 5  \n ", 1, 9);
        Check.faulty(Check.LAND, "hut", 1, 3);
        Check.faulty(Check.LAND, "hut 5 6;", 1, 6);
        Check.faulty(Check.LAND, "hut ;", 1, 4);
        Check.faulty(Check.LAND, "hut a;", 1, 4);
        Check.faulty(Check.LAND, "huts 5;", 1, 0);
        Check.faulty(Check.LAND, "hu 5;", 1, 0);
        Check.faulty(Check.LAND, "Hut 5;", 1, 0);
        Check.faulty(Check.LAND, "hut\t5;", 1, 3);
        Check.faulty(Check.LAND, "hut 5;;", 1, 6);
        Check.faulty(Check.LAND, ";", 1, 0);
        Check.faulty(Check.LAND, "5;", 1, 0);
        Check.faulty(Check.LAND, "hut -5;", 1, 4);
        Check.faulty(Check.LAND, "hut 5;" + (char) 233, 1, 6);
        Check.faulty(Check.LAND, "way 0 1;", 1, 7);
        Check.faulty(Check.LAND, "way 0 1 2 3;", 1, 10);
        Check.faulty(Check.LAND, "knows 0;", 1, 7);
        Check.faulty(Check.LAND, "begin 0 0;", 1, 0);
        Check.faulty(Check.EVENING, "climb 0 1;", 1, 8);
        Check.faulty(Check.EVENING, "descend 0 1;", 1, 10);
        Check.faulty(Check.EVENING, "sing 0;", 1, 6);
        Check.faulty(Check.EVENING, "heard 0 0;", 1, 0);
        Check.faulty(Check.SIGHT, "voice 0 0;", 1, 0);
        Check.faulty(Check.SIGHT, "mute 0;", 1, 6);
        Check.faulty(Check.CHOIR, "hut 0;", 1, 0);
        Check.faulty(Check.CHOIR, "step 1 1;", 1, 7);
        // FAULT 1 comes before those that stand ahead of it.
        Check.faulty(Check.LAND, "village 9;hut", 1, 13);
        Check.faulty(Check.LAND, Check.repeat("hut 1;", 10) + "x", 1, 60);
        Check.faulty(Check.LAND, "village 0;!", 1, 10);
    }

    private static void numbersThatCannotBe() {
        Check.faulty(Check.LAND, "hut 1;village 9;", 2, 14);
        Check.faulty(Check.LAND, "dam 9;", 2, 4);
        Check.faulty(Check.LAND, "deep 0;", 2, 5);
        Check.faulty(Check.LAND, "deep 10;", 2, 5);
        Check.faulty(Check.LAND, "slide 11;", 2, 6);
        Check.faulty(Check.LAND, "way 0 0 1;", 2, 6);
        Check.faulty(Check.LAND, "way 9 9 1;", 2, 4);
        Check.faulty(Check.LAND, "way 0 9 1;", 2, 6);
        Check.faulty(Check.LAND, "way 0 1 0;", 2, 8);
        Check.faulty(Check.LAND, "way 0 1 10;", 2, 8);
        Check.faulty(Check.LAND, "echo 1 1;", 2, 7);
        Check.faulty(Check.LAND, "echo 9 1;", 2, 5);
        Check.faulty(Check.LAND, "echo 1 9;", 2, 7);
        Check.faulty(Check.LAND, "ladder 9 1;", 2, 7);
        Check.faulty(Check.LAND, "ladder 0 10;", 2, 9);
        Check.faulty(Check.LAND, "singer 9 0;", 2, 7);
        Check.faulty(Check.LAND, "singer 0 10;", 2, 9);
        Check.faulty(Check.LAND, "knows 6 0;", 2, 6);
        Check.faulty(Check.LAND, "knows 0 5;", 2, 8);
        for (String word : new String[] {"begin", "sing", "whistle"}) {
            Check.faulty(Check.EVENING, word + " 6 0;", 2, word.length() + 1);
            Check.faulty(Check.EVENING, word + " 0 5;", 2, word.length() + 3);
            Check.good(Check.EVENING, word + " 5 4;");
        }
        Check.faulty(Check.EVENING, "walk 6 0;", 2, 5);
        Check.faulty(Check.EVENING, "walk 0 9;", 2, 7);
        Check.good(Check.EVENING, "walk 5 8;");
        Check.faulty(Check.EVENING, "climb 6;", 2, 6);
        Check.faulty(Check.EVENING, "descend 6;", 2, 8);
        Check.faulty(Check.SIGHT, "heard 9 0;", 2, 6);
        Check.faulty(Check.SIGHT, "mute 0 61;", 2, 7);
        Check.good(Check.SIGHT, "mute 8 60;heard 8 60;");
        Check.faulty(Check.CHOIR, "voice 4 0;", 2, 6);
        Check.faulty(Check.CHOIR, "voice 0 10;", 2, 8);
        Check.faulty(Check.CHOIR, "step 10;", 2, 5);
        Check.good(Check.CHOIR, "voice 3 9;step 9;");
        Check.faulty(Check.LAND, "village 9;dam 9;", 2, 8);
        // A FAULT 2 comes before a HUT that is not there.
        Check.faulty(Check.LAND, "village 0;dam 9;", 2, 14);
    }

    private static void tooMany() {
        Check.faulty(Check.LAND, Check.repeat("hut 1;", 10), 3, 54);
        Check.good(Check.LAND, Check.repeat("hut 1;", 9));
        Check.faulty(Check.LAND, "hut 1;hut 2;" + Check.repeat("echo 0 1;", 5), 3, 48);
        Check.good(Check.LAND, "hut 1;hut 2;" + Check.repeat("echo 0 1;", 4));
        Check.faulty(Check.LAND, "hut 1;" + Check.repeat("singer 0 0;", 7), 3, 72);
        Check.good(Check.LAND, "hut 1;" + Check.repeat("singer 0 0;", 6));
        Check.faulty(Check.EVENING, Check.repeat("climb 0;", 41), 3, 320);
        Check.good(Check.EVENING, Check.repeat("climb 0;", 40));
        Check.faulty(Check.SIGHT, Check.repeat("mute 0 0;", 11), 3, 90);
        Check.good(Check.SIGHT, Check.repeat("mute 0 0;", 10));
        Check.faulty(Check.CHOIR, Check.repeat("voice 0 0;", 10), 3, 90);
        Check.good(Check.CHOIR, Check.repeat("voice 0 0;", 9));
        // Of two the first by place; the line's first token stands ahead of its numbers.
        Check.faulty(Check.CHOIR, Check.repeat("voice 0 0;", 9) + "voice 4 0;", 3, 90);
        Check.faulty(Check.CHOIR, "voice 4 0;" + Check.repeat("voice 0 0;", 9), 2, 6);
        Check.faulty(Check.LAND, Check.repeat("hut 1;", 9) + "village 9;hut 1;", 2, 62);
        // FAULT 3 comes before a HUT or SINGER that is not there.
        Check.faulty(Check.LAND, "knows 0 0;" + Check.repeat("echo 0 1;", 5), 3, 46);
    }

    private static void notThere() {
        String[] lines = {"village 1;", "dam 1;", "way 0 1 1;", "way 1 0 1;", "echo 0 1;", "echo 1 0;",
            "ladder 1 3;", "ladder 1 0;", "singer 1 0;", "knows 0 0;", "singer 0 0;knows 1 0;"};
        for (String line : lines) {
            Check.faulty(Check.LAND, "hut 5;" + line, 4, 6 + line.length());
            Check.good(Check.LAND, "hut 5;hut 6;singer 1 1;" + line.replace("knows 1", "knows 0"));
        }
        Check.good(Check.LAND, "village 1;hut 5;hut 6;");
        Check.good(Check.LAND, "knows 0 1;singer 0 0;hut 0;");
        Check.faulty(Check.LAND, "hut 1;ladder 8 1;ladder 0 1;  ", 4, 30);
    }

    private static void tokens() {
        Check.good(Check.LAND, "hut5;\nhut\n07 ;hut 0;way0 1 2;way 2 1 9;\n");
        Check.good(Check.LAND, "   ");
        Check.faulty(Check.LAND, "hut5 0;", 1, 5);
        Check.faulty(Check.LAND, "hut 5hut 6;", 1, 5);
        Check.faulty(Check.LAND, "huthut 6;", 1, 0);
        Check.faulty(Check.LAND, "hut 000;", 1, 4);
        Check.faulty(Check.LAND, "way 0 1 1000", 1, 8);
        DownhillSong x = new DownhillSong();
        Check.told(x, Check.LAND, "hut 09;hut 00;way 00 01 05;");
        Check.due("HEIGHT 09", x.land(0, 10), 9);
        Check.due("MINUTES 05", x.land(0, 61), 5);
    }

    private static void emptyTexts() {
        for (int sort = 0; sort < 4; sort++) {
            Check.good(sort, "");
        }
        DownhillSong x = new DownhillSong();
        for (int sort = 0; sort < 4; sort++) {
            Check.told(x, sort, "");
        }
        Check.due("HUTS", x.land(0, 0), 0);
        Check.due("DEEP", x.land(0, 5), 2);
        Check.due("SLIDE", x.land(0, 6), 5);
        Check.due("DEEDS", x.deed(0, -1, 0), 0);
        Check.due("FACTS", x.fact(0, -1, 0), 0);
        Check.due("VOICES", x.choir(0, 0), 0);
        Check.due("STEP", x.choir(0, 1), 0);
        Check.due("STOP", x.stop(0, 0), 0);
        Check.due("SEERS", x.state(0, 0, 0, 2), 0);
        Check.due("SINGER 0", x.state(0, 0, 0, 30), -1000);
        Check.due("ALL", x.villages(0, 0, 0), 0);
        Check.due("CREW", x.villages(0, 0, 1), 0);
        Check.due("BEST", x.best(0, false), -1);
        Check.due("BEST minute", x.best(0, true), -1);
        Check.due("MASSES", x.masses(0, 0, true), 0);
        Check.due("FITS", x.fits(0, 0, false), 0);
        Check.due("ASK", x.fits(0, 0, true), -1);
        Check.due("TOPS", x.slopes(0, 0), 0);
        Check.due("DEPTH", x.slopes(0, 3), 0);
        Check.due("ODDS N", x.odds(0, 0, 0), 1);
        Check.due("ODDS D", x.odds(0, 0, 1), 1);
        Check.due("EXPECTED", x.odds(0, 0, 2), 0);
        Check.due("DRAWN", x.drawn(0, 1, 0, 0), -1000);
        Check.due("TEACH", x.teach(0, 0, 0, 0), 0);
    }

    private static void lands() {
        DownhillSong x = new DownhillSong();
        Check.told(x, Check.LAND, "hut 99;hut 0;hut 50;village 1;village 2;village 1;dam 2;echo 0 1;echo 0 1;"
            + "ladder 1 9;ladder 1 4;ladder 2 1;deep 9;deep 3;slide 0;slide 10;singer 2 9;singer 0 0;"
            + "knows 1 4;knows 1 0;knows 1 4;way 0 1 2;way 1 0 7;way 2 0 3;");
        int[] whole = {3, 2, 6, 4, 2, 3, 10, -1, -1, -1, 99, 0, 50, -1};
        for (int what = 0; what < whole.length; what++) {
            Check.due("land(0, " + what + ")", x.land(0, what), whole[what]);
        }
        Check.due("LADDER 0", x.land(0, 20), 0);
        Check.due("LADDER 1", x.land(0, 21), 4);
        Check.due("LADDER 2", x.land(0, 22), 1);
        Check.due("LADDER 3", x.land(0, 23), -1);
        Check.due("what 29", x.land(0, 29), -1);
        Check.due("HUT of SINGER 0", x.land(0, 30), 2);
        Check.due("HUT of SINGER 1", x.land(0, 31), 0);
        Check.due("HUT of SINGER 2", x.land(0, 32), -1);
        Check.due("TALL 0", x.land(0, 40), 9);
        Check.due("TALL 1", x.land(0, 41), 0);
        Check.due("TALL 2", x.land(0, 42), -1);
        Check.due("KNOWS 0", x.land(0, 50), 0);
        Check.due("KNOWS 1", x.land(0, 51), 17);
        Check.due("what 59", x.land(0, 59), -1);
        int[] ways = {0, 7, 3, 7, 0, 0, 3, 0, 0};
        for (int a = 0; a < 9; a++) {
            for (int b = 0; b < 9; b++) {
                int want = a < 3 && b < 3 ? ways[3 * a + b] : -1;
                Check.due("WAY " + a + " " + b, x.land(0, 60 + 9 * a + b), want);
            }
        }
        for (int what : new int[] {141, 1000, -1, Integer.MAX_VALUE, Integer.MIN_VALUE}) {
            Check.due("land(0, " + what + ")", x.land(0, what), -1);
        }
        Check.due("land(1, 0)", x.land(1, 0), -1);
        Check.due("land(-1, 0)", x.land(-1, 0), -1);
        Check.told(x, Check.LAND, Check.repeat("hut 7;", 9) + "singer 8 1;knows 0 3;way 8 0 6;");
        Check.due("no WAY from HUT 0 to itself", x.land(1, 60), 0);
        Check.due("WAY 0 8", x.land(1, 68), 6);
        Check.due("WAY 8 0", x.land(1, 132), 6);
        Check.due("WAY 8 8", x.land(1, 140), 0);
        Check.due("behind WAY 8 8", x.land(1, 141), -1);
        Check.due("HEIGHT 8", x.land(1, 18), 7);
        Check.due("what 19", x.land(1, 19), -1);
        Check.due("LADDER 8", x.land(1, 28), 0);
        Check.due("in its place", Check.tell(x, Check.LAND, 0, "hut 1;hut 2;hut 3;singer 0 0;"), 0);
        int[] anew = {3, 1, 0, 0, 0, 2, 5};
        for (int what = 0; what < anew.length; what++) {
            Check.due("anew land(0, " + what + ")", x.land(0, what), anew[what]);
        }
        Check.due("no LADDER", x.land(0, 21), 0);
        Check.due("no WAY", x.land(0, 61), 0);
        Check.due("KNOWS none", x.land(0, 50), 0);
    }

    private static void echoes() {
        DownhillSong x = new DownhillSong();
        Check.told(x, Check.LAND, "hut 1;hut 2;hut 3;echo 0 2;echo 2 1;");
        int[] want = {0, 2, 2, 1};
        for (int k = 0; k < 2; k++) {
            for (int what = 0; what < 2; what++) {
                Check.due("echo " + k + " " + what, x.echo(0, k, what), want[2 * k + what]);
            }
        }
        Check.due("echo 2", x.echo(0, 2, 0), -1);
        Check.due("echo -1", x.echo(0, -1, 0), -1);
        Check.due("echo what 2", x.echo(0, 0, 2), -1);
        Check.due("echo what -1", x.echo(0, 0, -1), -1);
        Check.due("echo of no LAND", x.echo(1, 0, 0), -1);
    }

    private static void deeds() {
        DownhillSong x = new DownhillSong();
        Check.told(x, Check.EVENING, "begin 0 1;sing 1 2;whistle 2 3;walk 3 8;climb 4;descend 5;");
        int[] want = {0, 0, 1, 1, 1, 2, 2, 2, 3, 3, 3, 8, 4, 4, -1, 5, 5, -1};
        for (int k = 0; k < 6; k++) {
            for (int what = 0; what < 3; what++) {
                Check.due("deed " + k + " " + what, x.deed(0, k, what), want[3 * k + what]);
            }
            Check.due("deed what 3", x.deed(0, k, 3), -2);
            Check.due("deed what -1", x.deed(0, k, -1), -2);
        }
        Check.due("how many", x.deed(0, -1, 0), 6);
        Check.due("how many, what 1", x.deed(0, -1, 1), -2);
        Check.due("deed 6", x.deed(0, 6, 0), -2);
        Check.due("deed -2", x.deed(0, -2, 0), -2);
        Check.due("no EVENING", x.deed(1, 0, 0), -2);
        Check.due("no EVENING, how many", x.deed(1, -1, 0), -2);
    }

    private static void facts() {
        DownhillSong x = new DownhillSong();
        Check.told(x, Check.SIGHT, "heard 8 60;mute 3 0;heard 8 60;");
        int[] want = {1, 8, 60, 0, 3, 0, 1, 8, 60};
        for (int k = 0; k < 3; k++) {
            for (int what = 0; what < 3; what++) {
                Check.due("fact " + k + " " + what, x.fact(0, k, what), want[3 * k + what]);
            }
            Check.due("fact what 3", x.fact(0, k, 3), -2);
            Check.due("fact what -1", x.fact(0, k, -1), -2);
        }
        Check.due("how many", x.fact(0, -1, 0), 3);
        Check.due("how many, what 1", x.fact(0, -1, 1), -2);
        Check.due("fact 3", x.fact(0, 3, 0), -2);
        Check.due("fact -2", x.fact(0, -2, 0), -2);
        Check.due("no SIGHT", x.fact(1, 0, 0), -2);
    }

    private static void images() {
        DownhillSong x = new DownhillSong();
        Check.due("image(3)", x.image(3), false);
        Check.due("image(-1)", x.image(-1), false);
        Check.due("image(0)", x.image(0), true);
        Check.told(x, Check.LAND, "hut 5;");
        Check.tell(x, Check.LAND, -1, "hut");
        Check.tape(x, "hut 6;hut 7;");
        Check.due("image(1)", x.image(1), true);
        Check.due("again(2)", x.again(2), false);
        Check.due("again(3)", x.again(3), false);
        Check.due("again(-1)", x.again(-1), false);
        Check.due("in the place of 0", x.text(0, 0), 0);
        Check.due("HUTS", x.land(0, 0), 2);
        Check.due("again(1)", x.again(1), true);
        Check.due("HUTS again", x.land(0, 0), 1);
        Check.due("FAULT again", x.fault(0), 1);
        Check.due("place again", x.fault(1), 3);
        Check.due("tape again", x.end(12), 12);
        Check.due("text again", x.text(0, -1), 1);
        Check.due("HUTS of it", x.land(1, 0), 2);
        Check.due("HEIGHT of it", x.land(1, 11), 7);
        Check.due("again(0)", x.again(0), true);
        Check.due("count", x.count(0), 0);
        Check.due("no LAND", x.land(0, 0), -1);
        Check.due("FAULT", x.fault(0), 0);
        Check.due("tape", x.end(1), -1);
        Check.due("again(1), once more", x.again(1), true);
        Check.due("HUTS once more", x.land(0, 0), 1);
        Check.due("image(0) anew", x.image(0), true);
        Check.due("text", x.text(0, 0), 0);
        Check.due("again(0) anew", x.again(0), true);
        Check.due("HUTS anew", x.land(0, 0), 1);
    }

    private static void imageOfEverySort() {
        DownhillSong x = new DownhillSong();
        String[] first = {"hut 5;singer 0 3;knows 0 2;ladder 0 7;deep 4;slide 3;dam 0;village 0;", "climb 0;walk 1 2;",
            "heard 1 2;mute 3 4;", "voice 1 2;voice 3 4;step 5;"};
        String[] other = {"hut 6;hut 9;singer 1 1;way 0 1 4;echo 1 0;", "sing 1 1;", "mute 5 6;", "voice 0 0;"};
        for (int sort = 0; sort < 4; sort++) {
            Check.told(x, sort, first[sort]);
            Check.told(x, sort, other[sort]);
        }
        String before = spoken(x);
        x.image(2);
        for (int sort = 0; sort < 4; sort++) {
            Check.due("other way round", Check.tell(x, sort, 0, other[sort]), 0);
            Check.due("other way round", Check.tell(x, sort, 1, first[sort]), 1);
        }
        Check.due("it is another one now", spoken(x).equals(before), false);
        x.again(2);
        Check.due("it is as it was", spoken(x).equals(before), true);
    }

    private static String spoken(DownhillSong x) {
        StringBuilder all = new StringBuilder();
        for (int k = 0; k < 2; k++) {
            for (int what = 0; what < 141; what++) {
                all.append(x.land(k, what)).append(' ').append(x.echo(k, what, 0)).append(' ')
                    .append(x.echo(k, what, 1)).append(' ').append(x.choir(k, what)).append(' ');
            }
            for (int n = -1; n < 40; n++) {
                for (int what = 0; what < 3; what++) {
                    all.append(x.deed(k, n, what)).append(' ').append(x.fact(k, n, what)).append(' ');
                }
            }
        }
        return all.toString();
    }
}
