/** What the tests share: counting wrong answers, and telling a text by feed() and end(). */
final class Check {
    static final int LAND = 0;
    static final int EVENING = 1;
    static final int SIGHT = 2;
    static final int CHOIR = 3;
    static final int NONE = -1;

    private static int wrong = 0;
    private static int asked = 0;

    private Check() {
    }

    static void due(String what, long got, long want) {
        asked++;
        if (got != want) {
            wrong++;
            if (wrong <= 40) {
                System.out.println(what + " answered " + got + ", due is " + want);
            }
        }
    }

    static void due(String what, boolean got, boolean want) {
        due(what, got ? 1 : 0, want ? 1 : 0);
    }

    static void finish() {
        System.out.println(asked + " answers, " + wrong + " wrong");
        if (wrong != 0) {
            System.exit(1);
        }
    }

    /** Makes a text the whole tape; its characters are the bytes. */
    static void tape(DownhillSong x, String text) {
        due("end(0) before a text", x.end(0), 0);
        StringBuilder padded = new StringBuilder(text);
        while (padded.length() % 20 != 0) {
            padded.append(' ');
        }
        int[] n = new int[5];
        for (int at = 0; at < padded.length(); at += 20) {
            for (int i = 0; i < 5; i++) {
                n[i] = 0;
                for (int k = 0; k < 4; k++) {
                    n[i] = n[i] << 8 | padded.charAt(at + 4 * i + k) & 255;
                }
            }
            due("feed at " + at, x.feed(n[0], n[1], n[2], n[3], n[4]), at + 20);
        }
        due("end(" + text.length() + ")", x.end(text.length()), text.length());
    }

    static int tell(DownhillSong x, int sort, int at, String text) {
        tape(x, text);
        return x.text(sort, at);
    }

    /** Tells a further text that must be without a FAULT. */
    static void told(DownhillSong x, int sort, String text) {
        int number = x.count(sort);
        due("text of sort " + sort + ": " + text, tell(x, sort, NONE, text), number);
    }

    /** Tells a text that must have a FAULT at a place. */
    static void faulty(int sort, String text, int fault, int place) {
        DownhillSong x = new DownhillSong();
        due("text " + text, tell(x, sort, NONE, text), NONE);
        due("fault(0) of " + text, x.fault(0), fault);
        due("fault(1) of " + text, x.fault(1), place);
        due("count behind " + text, x.count(sort), 0);
        due("the tape behind " + text, x.end(1), NONE);
    }

    /** Tells a text that must have none. */
    static void good(int sort, String text) {
        DownhillSong x = new DownhillSong();
        due("text " + text, tell(x, sort, NONE, text), 0);
        due("fault(0) of " + text, x.fault(0), 0);
        due("fault(1) of " + text, x.fault(1), NONE);
    }

    /** A new object that is told these, the first of each sort; null is not told. */
    static DownhillSong with(String land, String evening, String sight, String choir) {
        DownhillSong x = new DownhillSong();
        String[] texts = {land, evening, sight, choir};
        for (int sort = 0; sort < texts.length; sort++) {
            if (texts[sort] != null) {
                told(x, sort, texts[sort]);
            }
        }
        return x;
    }

    static DownhillSong land(String land) {
        return with(land, null, null, null);
    }

    static String repeat(String part, int times) {
        return part.repeat(times);
    }
}
