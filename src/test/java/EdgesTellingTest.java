/**
 * Promises 1 to 8, 17, 32 to 34 and Terms 1, boundary by boundary: each method stands for one sentence of the document
 * (told above it) that names a case too small, too large, empty, full or refused.
 */
public final class EdgesTellingTest {
    private static final int[] ODD = {-2, -3, 3, 4, 600, Integer.MAX_VALUE, Integer.MIN_VALUE};
    private static final String[] GOOD = {"hut 5;hut 9;singer 1 3;knows 0 2;way 0 1 4;echo 0 1;ladder 0 7;deep 4;slide 3;dam 0;village 1;",
        "climb 0;walk 1 2;sing 2 4;", "heard 1 2;mute 3 4;", "voice 1 2;voice 3 4;step 5;"};
    private static final String[] OTHER = {"hut 7;", "descend 3;", "mute 8 60;", "voice 0 9;"};
    private static final String[] FAULTY = {"hut 7;deep 0;", "climb 1;climb 6;", "mute 0 0;mute 9 0;", "step 9;voice 4 0;"};
    /** Each word: its sort, and of each NUMBER the least and the most. */
    private static final String[] WORDS = {"0 hut 0-99", "0 village 0-8", "0 dam 0-8", "0 deep 1-9", "0 slide 0-10",
        "0 way 0-8 0-8 1-9", "0 echo 0-8 0-8", "0 ladder 0-8 0-9", "0 singer 0-8 0-9", "0 knows 0-5 0-4",
        "1 begin 0-5 0-4", "1 sing 0-5 0-4", "1 whistle 0-5 0-4", "1 walk 0-5 0-8", "1 climb 0-5", "1 descend 0-5",
        "2 heard 0-8 0-60", "2 mute 0-8 0-60", "3 voice 0-3 0-9", "3 step 0-9"};

    public static void main(String[] args) {
        newObjectHasNothing();
        feedUpTo600();
        feedRefusedBringsNothing();
        feedHighestByteFirst();
        endAtMost();
        endCutsForGood();
        textFurtherUpToTwo();
        textInThePlaceOfOne();
        textNotRead();
        textWithFaultChangesNothing();
        textLeavesNoTrace();
        faultOfTheLatest();
        numbersThatCanBe();
        secondHutIsTheFirst();
        signsOfTokens();
        rowsOfDigits();
        linesCutShort();
        bytesBehindTheEnd();
        wordsMisspelled();
        linesTooLong();
        wordsOfOtherSorts();
        asManyAsMayBe();
        oneTooMany();
        whichFaultIsFirst();
        toldOfAndNotThere();
        laterOnesStrike();
        furtherOnes();
        atFirst();
        fullLand();
        smallLand();
        echoesAtTheirEdges();
        deedsAtTheirEdges();
        factsAtTheirEdges();
        countOfOtherSorts();
        imageOfOtherNumbers();
        againWithoutImage();
        againHasAll();
        imagesStay();
        Check.finish();
    }

    // 1: "No LANDS, EVENINGS, SIGHTS, CHOIRS; no images."
    private static void newObjectHasNothing() {
        DownhillSong x = new DownhillSong();
        for (int sort = 0; sort < 4; sort++) {
            Check.due("count", x.count(sort), 0);
        }
        for (int k = 0; k < 3; k++) {
            Check.due("again", x.again(k), false);
        }
        Check.due("tape", x.end(1), -1);
        Check.due("fault(0)", x.fault(0), 0);
        Check.due("fault(1)", x.fault(1), -1);
        Check.due("land", x.land(0, 0), -1);
        Check.due("echo", x.echo(0, 0, 0), -1);
        Check.due("deed", x.deed(0, -1, 0), -2);
        Check.due("stop", x.stop(0, 0), -1);
        Check.due("state", x.state(0, 0, 0, 0), -1000);
        Check.due("comes", x.comes(0, 0, 0), -1);
        Check.due("villages", x.villages(0, 0, 0), -2);
        Check.due("best", x.best(0, false), -1);
        Check.due("routes", x.routes(0, 0, 1, 0), -2);
        Check.due("mutes", x.mutes(0, 0, -1), -2);
        Check.due("masses", x.masses(0, 0, false), -1);
        Check.due("fact", x.fact(0, -1, 0), -2);
        Check.due("fits", x.fits(0, 0, false), -2);
        Check.due("choir", x.choir(0, 0), -1);
        Check.due("orders", x.orders(0), -1);
        Check.due("order", x.order(0, 0), -1);
        Check.due("odds", x.odds(0, 0, 2), -1);
        Check.due("drawn", x.drawn(0, 0, 0, 0), -1000);
        Check.due("psalm", x.psalm(0, 0, 0, 0), -2);
        Check.due("meet", x.meet(0, 0, 1, false), -1);
        Check.due("carry", x.carry(0, 0, false), -1);
        Check.due("join", x.join(0, 0, 0, false), -1);
        Check.due("slopes", x.slopes(0, 0), -1);
        Check.due("flood", x.flood(0, 0, 1, false), -1);
        Check.due("teach", x.teach(0, 0, 0, 0), -1);
    }

    // 2: "NONE, and nothing comes, if there would be more than 600." (how many: each length from 561 on)
    private static void feedUpTo600() {
        for (int length = 561; length <= 600; length++) {
            DownhillSong x = new DownhillSong();
            for (int n = 0; n < 600; n += 20) {
                x.feed(0, 0, 0, 0, 0);
            }
            x.end(length);
            Check.due("feed behind " + length, x.feed(0, 0, 0, 0, 0), length <= 580 ? length + 20 : -1);
            Check.due("end behind " + length, x.end(length + 1), length <= 580 ? length + 1 : -1);
        }
    }

    // 2: "nothing comes": the bytes stay as they were, too.
    private static void feedRefusedBringsNothing() {
        DownhillSong x = new DownhillSong();
        Check.tape(x, "hut 1;" + " ".repeat(588) + "hut 2;");
        Check.due("full", x.feed(0x21212121, 0x21212121, 0x21212121, 0x21212121, 0x21212121), -1);
        Check.due("text", x.text(0, -1), 0);
        Check.due("HUTS", x.land(0, 0), 2);
        Check.tape(x, "hut 3;" + " ".repeat(569) + "hut 4;");
        Check.due("581 of them", x.feed(0x21212121, 0x21212121, 0x21212121, 0x21212121, 0x21212121), -1);
        Check.due("no more of them", x.end(582), -1);
        Check.due("text", x.text(0, -1), 1);
        Check.due("HEIGHT", x.land(1, 11), 4);
    }

    // 2: "twenty bytes come behind it, of each number the highest first"
    private static void feedHighestByteFirst() {
        for (int place = 0; place < 20; place++) {
            for (int sign : new int[] {0x80, 0xff, 0x21}) {
                int[] n = {0x20202020, 0x20202020, 0x20202020, 0x20202020, 0x20202020};
                int shift = 24 - place % 4 * 8;
                n[place / 4] = n[place / 4] & ~(0xff << shift) | sign << shift;
                DownhillSong x = new DownhillSong();
                x.feed(0x20202020, 0x20202020, 0x20202020, 0x20202020, 0x20202020);
                Check.due("feed", x.feed(n[0], n[1], n[2], n[3], n[4]), 40);
                Check.due("text", x.text(0, -1), -1);
                Check.due("place of byte " + sign, x.fault(1), 20 + place);
            }
        }
    }

    // 3: "NONE if it has not so many, or n is below 0."
    private static void endAtMost() {
        DownhillSong x = new DownhillSong();
        Check.due("empty, end(0)", x.end(0), 0);
        Check.due("empty, end(1)", x.end(1), -1);
        x.feed(0, 0, 0, 0, 0);
        for (int n : new int[] {21, 600, 601, Integer.MAX_VALUE, -1, -20, Integer.MIN_VALUE}) {
            Check.due("end(" + n + ")", x.end(n), -1);
        }
        Check.due("nothing was cut: end(20)", x.end(20), 20);
        Check.due("end(19)", x.end(19), 19);
        Check.due("feed", x.feed(0, 0, 0, 0, 0), 39);
    }

    // 3: "The tape has its first n bytes alone"
    private static void endCutsForGood() {
        DownhillSong x = new DownhillSong();
        Check.tape(x, "hut 5;hut 6;");
        Check.due("end(6)", x.end(6), 6);
        Check.due("they are gone", x.end(12), -1);
        Check.due("they are gone", x.end(7), -1);
        Check.due("text", x.text(0, -1), 0);
        Check.due("HUTS", x.land(0, 0), 1);
        Check.tape(x, "hut 5;!!!!!!!!!!!!!!");
        x.end(6);
        Check.due("others in their place", x.feed(0x68757420, 0x363b2020, 0x20202020, 0x20202020, 0x20202020), 26);
        Check.due("text", x.text(0, 0), 0);
        Check.due("HEIGHT", x.land(0, 11), 6);
    }

    // 4: "a further one (at NONE) .. there are as many as may be" and Terms: "at most 2" of each sort
    private static void textFurtherUpToTwo() {
        for (int sort = 0; sort < 4; sort++) {
            DownhillSong x = new DownhillSong();
            for (int k = 0; k < 4; k++) {
                Check.due("further " + k, Check.tell(x, sort, -1, GOOD[sort]), k < 2 ? k : -2);
                Check.due("count " + k, x.count(sort), Math.min(k + 1, 2));
            }
            Check.due("of no other sort", x.count(0) + x.count(1) + x.count(2) + x.count(3), 2);
        }
    }

    // 4: "or in the place of one: its number .. -2: there is none such"
    private static void textInThePlaceOfOne() {
        for (int sort = 0; sort < 4; sort++) {
            DownhillSong x = new DownhillSong();
            for (int there = 0; there <= 2; there++) {
                for (int at = 0; at < 4; at++) {
                    Check.due("in the place of " + at, Check.tell(x, sort, at, OTHER[sort]), at < there ? at : -2);
                    Check.due("count", x.count(sort), there);
                }
                for (int at : ODD) {
                    Check.due("in the place of " + at, Check.tell(x, sort, at, OTHER[sort]), -2);
                }
                Check.tell(x, sort, -1, OTHER[sort]);
            }
            String before = spoken(x, sort, 1);
            Check.due("in the place of 0", Check.tell(x, sort, 0, GOOD[sort]), 0);
            Check.due("the other one stays", spoken(x, sort, 1).equals(before), true);
            Check.due("this one does not", spoken(x, sort, 0).equals(before), false);
        }
    }

    // 4: "-2: .. or no such sort (no text is read then, FAULT 0)", and the tape is taken all the same
    private static void textNotRead() {
        DownhillSong x = new DownhillSong();
        for (int sort = 0; sort < 4; sort++) {
            Check.told(x, sort, GOOD[sort]);
            Check.told(x, sort, OTHER[sort]);
        }
        String before = spokenAll(x);
        for (int sort : new int[] {-1, 4, Integer.MAX_VALUE, Integer.MIN_VALUE}) {
            for (int at = -1; at < 2; at++) {
                notRead(x, sort, at);
            }
        }
        for (int sort = 0; sort < 4; sort++) {
            notRead(x, sort, -1);
            notRead(x, sort, 2);
            notRead(x, sort, -2);
        }
        Check.due("all stays", spokenAll(x).equals(before), true);
    }

    private static void notRead(DownhillSong x, int sort, int at) {
        Check.due("a FAULT ahead", Check.tell(x, 0, 0, "hut"), -1);
        Check.due("it is there", x.fault(0), 1);
        Check.due("-2 with text " + sort + " " + at, Check.tell(x, sort, at, "hut 7;!"), -2);
        Check.due("FAULT", x.fault(0), 0);
        Check.due("place", x.fault(1), -1);
        Check.due("tape", x.end(1), -1);
    }

    // 4: "NONE: a FAULT." The tape is taken; what was told stays.
    private static void textWithFaultChangesNothing() {
        for (int sort = 0; sort < 4; sort++) {
            DownhillSong x = new DownhillSong();
            Check.due("further", Check.tell(x, sort, -1, FAULTY[sort]), -1);
            Check.due("count", x.count(sort), 0);
            Check.told(x, sort, GOOD[sort]);
            String before = spoken(x, sort, 0);
            Check.due("in its place", Check.tell(x, sort, 0, FAULTY[sort]), -1);
            Check.due("FAULT", x.fault(0), 2);
            Check.due("tape", x.end(1), -1);
            Check.due("it stays", spoken(x, sort, 0).equals(before), true);
            Check.due("further", Check.tell(x, sort, -1, FAULTY[sort]), -1);
            Check.due("count", x.count(sort), 1);
        }
    }

    // 4: each text is read on its own; nothing of an earlier one, good or faulty, is in it.
    private static void textLeavesNoTrace() {
        for (int sort = 0; sort < 4; sort++) {
            for (String next : new String[] {"", OTHER[sort], sort == 0 ? "hut 1;".repeat(9) + "singer 0 0;".repeat(6) : ""}) {
                DownhillSong alone = new DownhillSong();
                Check.told(alone, sort, next);
                DownhillSong x = new DownhillSong();
                Check.told(x, sort, GOOD[sort]);
                Check.tell(x, sort, 0, FAULTY[sort]);
                Check.due("in its place", Check.tell(x, sort, 0, next), 0);
                Check.due("as if alone", spoken(x, sort, 0).equals(spoken(alone, sort, 0)), true);
                Check.told(x, sort, next);
                Check.due("as if alone", spoken(x, sort, 1).equals(spoken(alone, sort, 0)), true);
            }
        }
    }

    // 5: "Of the latest text() .. 0 without .. NONE without. NONE for another what."
    private static void faultOfTheLatest() {
        DownhillSong x = new DownhillSong();
        Check.tell(x, 0, -1, "hut 1;hut");
        Check.due("FAULT", x.fault(0), 1);
        Check.due("place", x.fault(1), 9);
        for (int what : new int[] {-1, 2, 3, Integer.MAX_VALUE, Integer.MIN_VALUE}) {
            Check.due("fault(" + what + ")", x.fault(what), -1);
        }
        x.feed(0, 0, 0, 0, 0);
        Check.due("feed does not change it", x.fault(1), 9);
        x.end(0);
        Check.due("end does not change it", x.fault(0), 1);
        Check.tell(x, 3, -1, "step 10;");
        Check.due("FAULT", x.fault(0), 2);
        Check.due("place", x.fault(1), 5);
        Check.tell(x, 3, -1, "step 9;");
        Check.due("without", x.fault(0), 0);
        Check.due("without", x.fault(1), -1);
    }

    // Terms 1, "2 a NUMBER that can't be (as above": each NUMBER of each line, 0 to 99, with one digit and with two.
    private static void numbersThatCanBe() {
        for (String row : WORDS) {
            String[] form = row.split(" ");
            int sort = Integer.parseInt(form[0]);
            for (int which = 2; which < form.length; which++) {
                for (int n = 0; n < 100; n++) {
                    String line = line(form, which, Integer.toString(n));
                    if (n == other(form, which)) {
                        continue;
                    }
                    number(sort, form, which, n, line);
                    if (n < 10) {
                        number(sort, form, which, n, line(form, which, "0" + n));
                    }
                }
            }
        }
    }

    private static void number(int sort, String[] form, int which, int n, String line) {
        String[] range = form[which].split("-");
        String ahead = sort == 0 ? ahead(form[1]) : "";
        if (n >= Integer.parseInt(range[0]) && n <= Integer.parseInt(range[1])) {
            Check.good(sort, ahead + line);
        } else {
            int place = ahead.length();
            for (int i = 1; i < which; i++) {
                place = (ahead + line).indexOf(' ', place) + 1;
            }
            Check.faulty(sort, ahead + line, 2, place);
        }
    }

    /** A line with one NUMBER given, the others being ones that can be. */
    private static String line(String[] form, int which, String number) {
        StringBuilder line = new StringBuilder(form[1]);
        for (int i = 2; i < form.length; i++) {
            line.append(' ').append(i == which ? number : Integer.toString(usual(form, i)));
        }
        return line.append(';').toString();
    }

    private static int usual(String[] form, int i) {
        return form[1].equals("way") || form[1].equals("echo") ? i : 1;
    }

    /** The HUT with which a WAY or ECHO would go from a HUT to itself. */
    private static int other(String[] form, int which) {
        boolean two = form[1].equals("way") || form[1].equals("echo");
        return two && which < 4 ? usual(form, 5 - which) : -1;
    }

    /** As many HUTS and SINGERS as leave room for the line. */
    private static String ahead(String word) {
        return "hut 1;".repeat(word.equals("hut") ? 8 : 9) + "singer 0 0;".repeat(word.equals("singer") ? 5 : 6);
    }

    // Terms 1: "of way, echo the second HUT, if it is the first"
    private static void secondHutIsTheFirst() {
        for (int h = 0; h < 9; h++) {
            String huts = "hut 1;".repeat(9);
            Check.faulty(0, huts + "way " + h + " " + h + " 1;", 2, huts.length() + 6);
            Check.faulty(0, huts + "way " + h + " 0" + h + " 1;", 2, huts.length() + 6);
            Check.faulty(0, huts + "echo " + h + " " + h + ";", 2, huts.length() + 7);
            Check.good(0, huts + "ladder " + h + " " + h + ";singer " + h + " " + h + ";");
        }
        // A first HUT that can't be stands ahead of the second one.
        Check.faulty(0, "way 9 9 1;", 2, 4);
        Check.faulty(0, "echo 10 10;", 2, 5);
        // The third NUMBER of a way is no HUT.
        Check.good(0, "hut 1;hut 1;hut 1;way 1 2 2;way 1 2 1;");
    }

    // Terms 1: "TOKENS, as long as they go, blanks (10, 32) between: words, rows of letters a .. z; NUMBERS ..; ; one byte."
    private static void signsOfTokens() {
        for (int b = 0; b < 256; b++) {
            char sign = (char) b;
            boolean blank = b == 10 || b == 32;
            boolean letter = b >= 'a' && b <= 'z';
            boolean digit = b >= '0' && b <= '9';
            check("hut" + sign + "5;", blank || digit, letter ? 0 : 3);
            check("hut 5" + sign + ";", blank || digit, b == ';' ? 6 : 5);
            check("hut 5;" + sign, blank, 6);
            check(sign + "hut 5;", blank, 0);
            check("h" + sign + "t 5;", b == 'u', 0);
            check("hut 5;" + sign + "hut 6;", blank, 6);
            check("hut " + sign + ";", digit, 4 + (blank ? 1 : 0));
            check("hut 5" + sign, b == ';', blank || digit ? 6 : 5);
            check("hut 55" + sign + ";", blank, digit ? 4 : b == ';' ? 7 : 6);
        }
        Check.good(0, "\n\n hut\n \n5\n;\n \n");
        Check.good(0, "hut5;hut6;hut07;way0 1 9;");
        Check.faulty(0, "hut5hut6;", 1, 4);
        Check.faulty(0, "hut 5;;hut 6;", 1, 6);
        Check.faulty(0, "way01 9;", 1, 7);
    }

    private static void check(String text, boolean good, int place) {
        if (good) {
            Check.good(0, text);
        } else {
            Check.faulty(0, text, 1, place);
        }
    }

    // Terms 1: "(a longer row of digits is no token)"
    private static void rowsOfDigits() {
        Check.good(0, "hut 0;hut 00;hut 99;");
        Check.faulty(0, "hut 000;", 1, 4);
        Check.faulty(0, "hut 001;", 1, 4);
        Check.faulty(0, "hut 100;", 1, 4);
        Check.faulty(0, "hut 99" + "9".repeat(594), 1, 4);
        Check.faulty(0, "way 0 1 123;", 1, 8);
        Check.faulty(1, "climb 000;", 1, 6);
        Check.faulty(2, "mute 0 060;", 1, 7);
        Check.faulty(3, "step 005;", 1, 5);
    }

    // Terms 1: "1 the first byte or token with which no text goes on .. (a token's first byte; the end's)": an end anywhere
    private static void linesCutShort() {
        for (String row : WORDS) {
            String[] form = row.split(" ");
            String line = line(form, -1, "");
            for (int n = 0; n < line.length(); n++) {
                String cut = line.substring(0, n);
                int sort = Integer.parseInt(form[0]);
                if (n == 0) {
                    Check.good(sort, cut);
                } else {
                    Check.faulty(sort, cut, 1, n < form[1].length() ? 0 : n);
                }
            }
        }
        Check.faulty(3, "step 1 \n ", 1, 9);
    }

    // 3, 4: "its first n bytes alone": what stood behind the end once, or in the text before, is no part of the text
    private static void bytesBehindTheEnd() {
        for (String row : WORDS) {
            String[] form = row.split(" ");
            int sort = Integer.parseInt(form[0]);
            String line = line(form, -1, "");
            for (int n = 1; n < line.length(); n++) {
                DownhillSong x = new DownhillSong();
                Check.tell(x, sort, -1, "a1".repeat(300));
                Check.tape(x, line.substring(0, n) + "a1;".repeat(9));
                Check.due("end", x.end(n), n);
                Check.due("text", x.text(sort, -1), -1);
                Check.due("FAULT", x.fault(0), 1);
                Check.due("place", x.fault(1), n < form[1].length() ? 0 : n);
            }
        }
    }

    // Terms 1: "with which no text goes on": one letter that is another, one less, one more
    private static void wordsMisspelled() {
        for (String row : WORDS) {
            String[] form = row.split(" ");
            int sort = Integer.parseInt(form[0]);
            String line = line(form, -1, "");
            for (int i = 0; i < form[1].length(); i++) {
                String rest = line.substring(i + 1);
                Check.faulty(sort, line.substring(0, i) + "x" + rest, 1, 0);
                Check.faulty(sort, line.substring(0, i) + "x" + line.charAt(i) + rest, 1, 0);
                Check.faulty(sort, line.substring(0, i) + rest, 1, 0);
                Check.faulty(sort, line.substring(0, i) + Character.toUpperCase(line.charAt(i)) + rest, 1, 0);
            }
        }
    }

    // Terms 1, the lines: one NUMBER more, one less, a second word.
    private static void linesTooLong() {
        for (String row : WORDS) {
            String[] form = row.split(" ");
            int sort = Integer.parseInt(form[0]);
            String line = line(form, -1, "");
            String most = line.substring(0, line.length() - 1);
            Check.faulty(sort, most + " 1;", 1, most.length() + 1);
            Check.faulty(sort, most + " " + form[1] + ";", 1, most.length() + 1);
            int last = most.lastIndexOf(' ');
            Check.faulty(sort, most.substring(0, last) + ";", 1, last);
            Check.faulty(sort, form[1] + ";", 1, form[1].length());
            Check.faulty(sort, form[1] + form[1] + ";", 1, 0);
            Check.faulty(sort, form[1] + "s 1;", 1, 0);
        }
    }

    // Terms 1: "with which no text goes on", no text of that sort
    private static void wordsOfOtherSorts() {
        for (String row : WORDS) {
            String[] form = row.split(" ");
            for (int sort = 0; sort < 4; sort++) {
                if (sort != Integer.parseInt(form[0])) {
                    Check.faulty(sort, line(form, -1, ""), 1, 0);
                }
            }
        }
    }

    // Terms 1: "at most 9 .. at most 4 .. at most 6 .. at most 40 .. at most 10 .. at most 9"
    private static void asManyAsMayBe() {
        String land = "hut 1;".repeat(9) + "singer 8 9;".repeat(6) + "echo 0 8;".repeat(4);
        DownhillSong x = Check.with(land, "climb 5;".repeat(40), "mute 8 60;".repeat(10), "voice 3 9;".repeat(9));
        Check.due("HUTS", x.land(0, 0), 9);
        Check.due("SINGERS", x.land(0, 1), 6);
        Check.due("ECHOES", x.land(0, 4), 4);
        Check.due("DEEDS", x.deed(0, -1, 0), 40);
        Check.due("FACTS", x.fact(0, -1, 0), 10);
        Check.due("VOICES", x.choir(0, 0), 9);
        // What may be told as often as one likes is no more of them.
        Check.good(0, "hut 1;hut 1;" + "deep 9;".repeat(10) + "slide 9;".repeat(10) + "village 0;".repeat(12)
            + "dam 1;".repeat(12) + "way 0 1 1;".repeat(12) + "ladder 1 1;".repeat(4));
        Check.good(0, "hut 1;singer 0 0;" + "knows 0 1;".repeat(30));
        Check.good(3, "step 1;".repeat(60));
    }

    // Terms 1: "3 a 10th HUT, a 5th ECHO, a 7th SINGER, a 41st DEED, an 11th FACT, a 10th VOICE, at its first token"
    private static void oneTooMany() {
        Check.faulty(0, "hut 1;".repeat(9) + "  hut 1;", 3, 56);
        Check.faulty(0, "hut 1;".repeat(9) + "\nhut 1;hut 1;", 3, 55);
        Check.faulty(0, "hut 1;hut 1;" + "echo 0 1;".repeat(4) + "village 0; echo 1 0;", 3, 59);
        Check.faulty(0, "hut 1;" + "singer 0 0;".repeat(6) + "deep 1;singer 0 0;", 3, 79);
        for (String deed : new String[] {"begin 0 0;", "sing 0 0;", "whistle 0 0;", "walk 0 0;", "climb 0;", "descend 0;"}) {
            Check.good(1, "climb 0;".repeat(39) + deed);
            Check.faulty(1, "climb 0;".repeat(40) + deed, 3, 320);
        }
        for (String fact : new String[] {"heard 0 0;", "mute 0 0;"}) {
            Check.good(2, "heard 0 0;".repeat(5) + "mute 0 0;".repeat(4) + fact);
            Check.faulty(2, "heard 0 0;".repeat(5) + "mute 0 0;".repeat(5) + fact, 3, 95);
        }
        Check.faulty(3, "voice 0 0;".repeat(9) + "step 1;voice 0 0;", 3, 97);
    }

    // Terms 1: "If there is none, the first by place, of one place the least .. If there is none of these, at the end's place: 4"
    private static void whichFaultIsFirst() {
        String ten = "voice 0 0;".repeat(9);
        Check.faulty(3, ten + "voice 4 0;", 3, 90);
        Check.faulty(3, ten + "step 10;voice 0 0;", 2, 95);
        Check.faulty(3, "voice 0 10;" + ten, 2, 8);
        Check.faulty(3, "voice 4 10;", 2, 6);
        Check.faulty(3, ten + "voice 0 0;step 10;", 3, 90);
        // A line with a NUMBER that can't be is told all the same; its own FAULT stands ahead of the one too many.
        Check.faulty(0, "hut 1;" + "singer 0 10;".repeat(1) + "singer 0 0;".repeat(6), 2, 15);
        // FAULT 1 comes before all of them, wherever it is.
        Check.faulty(3, "voice 4 0;!", 1, 10);
        Check.faulty(3, ten + "voice 0 0;step", 1, 104);
        Check.faulty(0, "village 8;deep 0;hut 100;", 1, 21);
        // FAULT 4 comes behind all of them.
        Check.faulty(0, "village 8;deep 0;", 2, 15);
        Check.faulty(0, "knows 5 4;" + "hut 1;".repeat(10), 3, 64);
        Check.faulty(0, "village 8;", 4, 10);
    }

    // Terms 1: "4 of a LAND a HUT or SINGER that was told of and is not there", at the end's place
    private static void toldOfAndNotThere() {
        String[] lines = {"village H;", "dam H;", "way 0 H 1;", "way H 0 1;", "echo 0 H;", "echo H 0;", "ladder H 0;", "ladder H 9;",
            "singer H 0;"};
        for (int huts = 1; huts < 9; huts++) {
            for (String line : lines) {
                String there = line.replace("H", Integer.toString(huts));
                String text = "hut 1;".repeat(huts) + there;
                Check.faulty(0, text, 4, text.length());
                Check.faulty(0, text + " \n ", 4, text.length() + 3);
                Check.good(0, text + "hut 1;");
            }
        }
        for (int singers = 0; singers < 6; singers++) {
            String text = "hut 1;knows " + singers + " 0;" + "singer 0 0;".repeat(singers);
            Check.faulty(0, text, 4, text.length());
            Check.good(0, text + "singer 0 0;");
        }
        // DEEDS and FACTS tell of what need not be there.
        Check.good(1, "walk 5 8;begin 5 4;");
        Check.good(2, "heard 8 60;");
    }

    // Terms 1: "Later ones strike (so of a WAY of the same two)"
    private static void laterOnesStrike() {
        DownhillSong x = Check.with("hut 1;hut 2;way 0 1 9;way 1 0 1;ladder 0 9;ladder 0 0;ladder 1 0;ladder 1 3;deep 9;deep 1;"
            + "slide 10;slide 0;", null, null, "step 9;step 0;");
        Check.due("WAY", x.land(0, 61), 1);
        Check.due("WAY", x.land(0, 69), 1);
        Check.due("LADDER 0", x.land(0, 20), 0);
        Check.due("LADDER 1", x.land(0, 21), 3);
        Check.due("DEEP", x.land(0, 5), 1);
        Check.due("SLIDE", x.land(0, 6), 0);
        Check.due("STEP", x.choir(0, 1), 0);
    }

    // Terms 1: "but HUTS, VILLAGES, DAMS, ECHOES, SINGERS, what they KNOW, DEEDS, FACTS, VOICES, which are further ones"
    private static void furtherOnes() {
        DownhillSong x = Check.with("hut 1;hut 1;village 0;village 1;village 0;dam 1;dam 0;echo 0 1;echo 0 1;singer 0 0;singer 0 0;"
            + "knows 0 0;knows 0 4;knows 0 0;", "climb 0;climb 0;", "mute 0 0;mute 0 0;heard 0 0;", "voice 0 0;voice 0 0;");
        int[] whole = {2, 2, 3, 3, 2};
        for (int what = 0; what < whole.length; what++) {
            Check.due("land(0, " + what + ")", x.land(0, what), whole[what]);
        }
        Check.due("KNOWS", x.land(0, 50), 17);
        Check.due("DEEDS", x.deed(0, -1, 0), 2);
        Check.due("FACTS", x.fact(0, -1, 0), 3);
        Check.due("VOICES", x.choir(0, 0), 2);
    }

    // Terms 1: "none at first", "(0 at first: none)", "DEEP .. (2)", "SLIDE .. (5)", "a STEP .. (0 at first)"
    private static void atFirst() {
        for (String land : new String[] {"", "hut 1;hut 2;singer 1 0;"}) {
            DownhillSong x = Check.with(land, "", "", "");
            int[] whole = {land.isEmpty() ? 0 : 2, land.isEmpty() ? 0 : 1, 0, 0, 0, 2, 5};
            for (int what = 0; what < whole.length; what++) {
                Check.due("at first land(0, " + what + ")", x.land(0, what), whole[what]);
            }
            int none = land.isEmpty() ? -1 : 0;
            Check.due("LADDER", x.land(0, 21), none);
            Check.due("KNOWS", x.land(0, 50), none);
            Check.due("WAY", x.land(0, 61), none);
            Check.due("DEEDS", x.deed(0, -1, 0), 0);
            Check.due("FACTS", x.fact(0, -1, 0), 0);
            Check.due("VOICES", x.choir(0, 0), 0);
            Check.due("STEP", x.choir(0, 1), 0);
        }
    }

    // 6: "NONE: there is none such (of any), or for another what." A LAND as full as may be: each what.
    private static void fullLand() {
        StringBuilder land = new StringBuilder();
        for (int h = 0; h < 9; h++) {
            land.append("hut ").append(90 + h).append(";ladder ").append(h).append(' ').append(9 - h).append(';');
            land.append(h > 0 ? "way " + (h - 1) + " " + h + " " + h + ";" : "");
        }
        for (int s = 0; s < 6; s++) {
            land.append("singer ").append(8 - s).append(' ').append(s + 4).append(";knows ").append(s).append(' ').append(s % 5).append(';');
        }
        DownhillSong x = Check.land(land + "village 8;dam 7;echo 8 7;deep 9;slide 10;");
        int[] whole = {9, 6, 256, 128, 1, 9, 10, -1, -1, -1};
        for (int what = -20; what < 200; what++) {
            int k = Math.floorMod(what, 10);
            int a = (what - 60) / 9;
            int b = (what - 60) % 9;
            int want = -1;
            if (what >= 0 && what < 10) {
                want = whole[what];
            } else if (what >= 10 && what < 30 && k < 9) {
                want = what < 20 ? 90 + k : 9 - k;
            } else if (what >= 30 && what < 60 && k < 6) {
                want = what < 40 ? 8 - k : what < 50 ? k + 4 : 1 << k % 5;
            } else if (what >= 60 && what < 141) {
                want = Math.abs(a - b) == 1 ? Math.max(a, b) : 0;
            }
            Check.due("land(0, " + what + ")", x.land(0, what), want);
        }
        for (int no : new int[] {-1, 1, 2, Integer.MAX_VALUE, Integer.MIN_VALUE}) {
            Check.due("land(" + no + ", 0)", x.land(no, 0), -1);
            Check.due("land(0, ..)", x.land(0, no == 1 || no == 2 ? 141 + no : no), -1);
        }
    }

    // 6: as above; one HUT, no SINGER: each what.
    private static void smallLand() {
        DownhillSong x = Check.land("hut 7;");
        for (int what = 0; what < 150; what++) {
            int[] whole = {1, 0, 0, 0, 0, 2, 5, -1, -1, -1, 7};
            int want = what < whole.length ? whole[what] : what == 20 || what == 60 ? 0 : -1;
            Check.due("land(0, " + what + ")", x.land(0, what), want);
        }
    }

    // 7: "NONE: there is none such (of either), or for another what."
    private static void echoesAtTheirEdges() {
        DownhillSong x = Check.land("hut 1;hut 1;hut 1;echo 0 1;echo 1 2;echo 2 0;echo 0 1;");
        Check.told(x, 0, "hut 1;");
        for (int k = -2; k < 6; k++) {
            boolean there = k >= 0 && k < 4;
            Check.due("from " + k, x.echo(0, k, 0), there ? k % 3 : -1);
            Check.due("to " + k, x.echo(0, k, 1), there ? (k + 1) % 3 : -1);
            Check.due("without ECHOES", x.echo(1, k, 0), -1);
            Check.due("no LAND", x.echo(2, k, 0), -1);
            Check.due("no LAND", x.echo(-1, k, 0), -1);
            Check.due("what 2", x.echo(0, k, 2), -1);
            Check.due("what -1", x.echo(0, k, -1), -1);
        }
        Check.due("far", x.echo(0, Integer.MAX_VALUE, 0), -1);
        Check.due("far", x.echo(0, Integer.MIN_VALUE, 0), -1);
        Check.due("far", x.echo(0, 0, Integer.MIN_VALUE), -1);
    }

    // 8: "How many DEEDS (k NONE, what 0) .. (NONE without). -2: there is none such (of either), or for another what."
    private static void deedsAtTheirEdges() {
        DownhillSong x = new DownhillSong();
        Check.told(x, 1, "");
        Check.told(x, 1, "begin 5 4;sing 0 0;whistle 1 3;walk 2 8;climb 5;descend 0;" + "climb 3;".repeat(34));
        int[][] want = {{0, 5, 4}, {1, 0, 0}, {2, 1, 3}, {3, 2, 8}, {4, 5, -1}, {5, 0, -1}};
        for (int k = -3; k < 43; k++) {
            for (int what = -1; what < 4; what++) {
                int due = -2;
                if (k == -1 && what == 0) {
                    due = 40;
                } else if (k >= 0 && k < 40 && what >= 0 && what < 3) {
                    due = k < 6 ? want[k][what] : new int[] {4, 3, -1}[what];
                }
                Check.due("deed(1, " + k + ", " + what + ")", x.deed(1, k, what), due);
                Check.due("deed(0, " + k + ", " + what + ")", x.deed(0, k, what), k == -1 && what == 0 ? 0 : -2);
                Check.due("deed(2, " + k + ", " + what + ")", x.deed(2, k, what), -2);
                Check.due("deed(-1, " + k + ", " + what + ")", x.deed(-1, k, what), -2);
            }
        }
        Check.due("far", x.deed(1, Integer.MIN_VALUE, 0), -2);
        Check.due("far", x.deed(1, Integer.MAX_VALUE, 0), -2);
        Check.due("far", x.deed(1, 0, Integer.MAX_VALUE), -2);
        Check.due("far", x.deed(Integer.MIN_VALUE, 0, 0), -2);
    }

    // 17: "How many FACTS (k NONE, what 0) .. -2: there is none such (of either), or for another what."
    private static void factsAtTheirEdges() {
        DownhillSong x = new DownhillSong();
        Check.told(x, 2, "");
        Check.told(x, 2, "heard 8 60;mute 0 0;heard 0 0;mute 8 60;" + "mute 3 7;".repeat(6));
        int[][] want = {{1, 8, 60}, {0, 0, 0}, {1, 0, 0}, {0, 8, 60}};
        for (int k = -3; k < 13; k++) {
            for (int what = -1; what < 4; what++) {
                int due = -2;
                if (k == -1 && what == 0) {
                    due = 10;
                } else if (k >= 0 && k < 10 && what >= 0 && what < 3) {
                    due = k < 4 ? want[k][what] : new int[] {0, 3, 7}[what];
                }
                Check.due("fact(1, " + k + ", " + what + ")", x.fact(1, k, what), due);
                Check.due("fact(0, " + k + ", " + what + ")", x.fact(0, k, what), k == -1 && what == 0 ? 0 : -2);
                Check.due("fact(2, " + k + ", " + what + ")", x.fact(2, k, what), -2);
                Check.due("fact(-1, " + k + ", " + what + ")", x.fact(-1, k, what), -2);
            }
        }
        Check.due("far", x.fact(1, Integer.MIN_VALUE, 0), -2);
        Check.due("far", x.fact(1, Integer.MAX_VALUE, 0), -2);
        Check.due("far", x.fact(1, 0, Integer.MIN_VALUE), -2);
    }

    // 32: "How many there are of a sort. -2 for another one."
    private static void countOfOtherSorts() {
        DownhillSong x = new DownhillSong();
        for (int sort = -3; sort < 8; sort++) {
            Check.due("count(" + sort + ")", x.count(sort), sort >= 0 && sort < 4 ? 0 : -2);
        }
        Check.due("far", x.count(Integer.MAX_VALUE), -2);
        Check.due("far", x.count(Integer.MIN_VALUE), -2);
        for (int sort = 0; sort < 4; sort++) {
            for (int k = 1; k < 3; k++) {
                Check.told(x, sort, "");
                Check.due("count", x.count(sort), k);
            }
        }
    }

    // 33: "true; false for another k"
    private static void imageOfOtherNumbers() {
        DownhillSong x = new DownhillSong();
        for (int k : new int[] {-1, 3, 4, Integer.MAX_VALUE, Integer.MIN_VALUE}) {
            Check.due("image(" + k + ")", x.image(k), false);
            Check.due("again(" + k + ")", x.again(k), false);
        }
        for (int k = 0; k < 3; k++) {
            Check.due("no image yet", x.again(k), false);
            Check.due("image(" + k + ")", x.image(k), true);
            Check.due("again(" + k + ")", x.again(k), true);
        }
    }

    // 34: "false if there is none such", and all stays then
    private static void againWithoutImage() {
        DownhillSong x = new DownhillSong();
        x.image(1);
        Check.told(x, 0, "hut 5;");
        Check.tape(x, "hut");
        for (int k : new int[] {0, 2, -1, 3}) {
            Check.due("again(" + k + ")", x.again(k), false);
            Check.due("HUTS stay", x.land(0, 0), 1);
            Check.due("the tape stays", x.end(3), 3);
        }
        Check.due("again(1)", x.again(1), true);
        Check.due("no LAND", x.count(0), 0);
    }

    // 33, 34: "all that is told (the tape, the FAULT, too), as it is now"
    private static void againHasAll() {
        DownhillSong x = new DownhillSong();
        for (int sort = 0; sort < 4; sort++) {
            Check.told(x, sort, GOOD[sort]);
        }
        Check.tell(x, 0, 0, "hut 1;deep 0;");
        Check.tape(x, "voice 2 7;step 3;");
        String before = spokenAll(x);
        Check.due("image", x.image(2), true);
        for (int sort = 0; sort < 4; sort++) {
            Check.told(x, sort, OTHER[sort]);
            Check.due("in its place", Check.tell(x, sort, 0, OTHER[sort]), 0);
        }
        Check.tape(x, "! ".repeat(300));
        Check.due("another one now", spokenAll(x).equals(before), false);
        Check.due("again", x.again(2), true);
        Check.due("all of it", spokenAll(x).equals(before), true);
        Check.due("FAULT", x.fault(0), 2);
        Check.due("place", x.fault(1), 11);
        Check.due("length of the tape", x.end(18), -1);
        Check.due("length of the tape", x.end(17), 17);
        Check.due("bytes of the tape", x.text(3, -1), 1);
        Check.due("PART", x.choir(1, 10), 2);
        Check.due("HEIGHT", x.choir(1, 20), 7);
        Check.due("STEP", x.choir(1, 1), 3);
        Check.due("count", x.count(0), 1);
    }

    // 33, 34: an image stays what it is, whatever comes behind it, and may be made anew
    private static void imagesStay() {
        DownhillSong x = new DownhillSong();
        for (int k = 0; k < 3; k++) {
            Check.due("text", Check.tell(x, 0, k == 0 ? -1 : 0, "hut " + k + ";"), 0);
            Check.due("image", x.image(k), true);
        }
        for (int round = 0; round < 3; round++) {
            for (int k = 2; k >= 0; k--) {
                Check.due("again", x.again(k), true);
                Check.due("HEIGHT of image " + k, x.land(0, 10), k);
                Check.due("text", Check.tell(x, 0, 0, "hut 99;"), 0);
                Check.due("HEIGHT", x.land(0, 10), 99);
            }
        }
        x.image(1);
        x.again(0);
        x.again(1);
        Check.due("made anew", x.land(0, 10), 99);
    }

    private static String spokenAll(DownhillSong x) {
        StringBuilder all = new StringBuilder();
        for (int sort = 0; sort < 4; sort++) {
            all.append(x.count(sort)).append(':').append(spoken(x, sort, 0)).append(spoken(x, sort, 1));
        }
        return all.toString();
    }

    /** All that can be read of what was told. */
    private static String spoken(DownhillSong x, int sort, int k) {
        StringBuilder all = new StringBuilder();
        for (int n = -1; n < (sort == 0 ? 141 : 40); n++) {
            for (int what = 0; what < 3; what++) {
                int got = sort == 1 ? x.deed(k, n, what) : sort == 2 ? x.fact(k, n, what) : sort == 3 ? x.choir(k, n)
                    : what == 2 ? x.land(k, n) : x.echo(k, n, what);
                all.append(got).append(' ');
            }
        }
        return all.toString();
    }
}
