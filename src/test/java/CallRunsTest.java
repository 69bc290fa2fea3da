import java.util.ArrayList;
import java.util.Arrays;
import java.util.List;
import java.util.Random;

/** Promises 1 to 8, 17, 19, 32 to 34 over chance runs of calls, compared with a plain model of what is told. */
public final class CallRunsTest {
    private static final Random RANDOM = new Random(5);
    private static final String[][] TEXTS = {
        {"", "hut 9;hut 5;way 0 1 1;dam 1;village 1;singer 0 0;knows 0 4;", "hut 3;ladder 0 4;deep 7;slide 0;",
            "hut 1;hut 2;echo 0 1;singer 1 9;", "hut 1;hut 1;way 1 2 3;", "way 0 0 1;", "hut 100;", "hut", "deep 0;"},
        {"", "begin 0 4;walk 0 1;sing 0 4;", "climb 0;descend 5;whistle 1 2;", "climb 0 1;", "walk 0 9;", "climb 0;".repeat(41)},
        {"", "heard 3 5;mute 2 2;", "mute 8 60;", "heard 9 0;", "mute 0 61;", "mute 0 0", "mute 0 0;".repeat(11)},
        {"", "voice 0 5;voice 1 6;voice 0 4;step 1;", "step 9;step 3;voice 3 9;", "voice 4 0;", "step 10;", "voice"}};
    private static final int[] ODD = {-2, -1, 0, 1, 2, 3, 4, 600, 601, Integer.MAX_VALUE, Integer.MIN_VALUE};

    public static void main(String[] args) {
        for (int run = 0; run < 1500; run++) {
            run();
        }
        Check.finish();
    }

    private static void run() {
        DownhillSong x = new DownhillSong();
        Known known = new Known();
        Known[] images = new Known[3];
        StringBuilder calls = new StringBuilder();
        for (int call = 0; call < 60; call++) {
            int which = RANDOM.nextInt(9);
            if (which < 2) {
                put(x, known, calls, some(TEXTS[RANDOM.nextInt(4)]));
            } else if (which == 2) {
                end(x, known, calls, RANDOM.nextBoolean() ? odd() : RANDOM.nextInt(known.tape.length() + 2));
            } else if (which == 3) {
                text(x, known, calls, odd(), odd());
            } else if (which < 7) {
                int sort = RANDOM.nextInt(4);
                end(x, known, calls, 0);
                put(x, known, calls, some(TEXTS[sort]));
                text(x, known, calls, sort, RANDOM.nextInt(4) - 1);
            } else {
                int k = RANDOM.nextInt(5) - 1;
                boolean there = k >= 0 && k < 3;
                if (which == 7) {
                    calls.append(" image ").append(k);
                    Check.due("image in" + calls, x.image(k), there);
                    if (there) {
                        images[k] = new Known(known);
                    }
                } else {
                    calls.append(" again ").append(k);
                    Check.due("again in" + calls, x.again(k), there && images[k] != null);
                    known = there && images[k] != null ? new Known(images[k]) : known;
                }
            }
            compare(x, known, calls);
        }
    }

    private static void put(DownhillSong x, Known known, StringBuilder calls, String text) {
        String rest = text;
        while (!rest.isEmpty() || RANDOM.nextInt(6) == 0) {
            String piece = (rest + " ".repeat(20)).substring(0, 20);
            rest = rest.length() > 20 ? rest.substring(20) : "";
            int[] n = new int[5];
            for (int i = 0; i < 20; i++) {
                n[i / 4] = n[i / 4] << 8 | piece.charAt(i);
            }
            boolean fits = known.tape.length() + 20 <= 600;
            known.tape += fits ? piece : "";
            calls.append(" feed '").append(piece).append('\'');
            Check.due("feed in" + calls, x.feed(n[0], n[1], n[2], n[3], n[4]), fits ? known.tape.length() : -1);
        }
    }

    private static void end(DownhillSong x, Known known, StringBuilder calls, int n) {
        boolean there = n >= 0 && n <= known.tape.length();
        known.tape = there ? known.tape.substring(0, n) : known.tape;
        calls.append(" end ").append(n);
        Check.due("end in" + calls, x.end(n), there ? n : -1);
    }

    private static void text(DownhillSong x, Known known, StringBuilder calls, int sort, int at) {
        calls.append(" text ").append(sort).append(' ').append(at);
        Check.due("text in" + calls, x.text(sort, at), known.text(sort, at));
    }

    private static void compare(DownhillSong x, Known known, StringBuilder calls) {
        Check.due("FAULT in" + calls, x.fault(0), known.fault[0]);
        Check.due("place in" + calls, x.fault(1), known.fault[1]);
        Check.due("fault(2) in" + calls, x.fault(2), -1);
        for (int sort = 0; sort < 4; sort++) {
            List<String> texts = known.texts.get(sort);
            Check.due("count " + sort + " in" + calls, x.count(sort), texts.size());
            for (int k = -1; k < 3; k++) {
                String want = k >= 0 && k < texts.size() ? looks(sort, texts.get(k)) : looked(new DownhillSong(), sort, k);
                Check.due("what is told, " + sort + " " + k + " in" + calls, looked(x, sort, k).equals(want), true);
            }
        }
    }

    /** What an object tells of a text that it was told alone. */
    private static String looks(int sort, String text) {
        DownhillSong alone = new DownhillSong();
        Check.tape(alone, text);
        alone.text(sort, -1);
        return looked(alone, sort, 0);
    }

    private static String looked(DownhillSong x, int sort, int k) {
        StringBuilder all = new StringBuilder();
        for (int n = 0; n < (sort == 0 ? 145 : 41); n++) {
            switch (sort) {
                case 0:
                    all.append(x.land(k, n)).append(' ').append(x.echo(k, n, 0)).append(x.echo(k, n, 1)).append(' ');
                    break;
                case 1:
                    all.append(x.deed(k, n - 1, 0)).append(x.deed(k, n - 1, 1)).append(x.deed(k, n - 1, 2)).append(' ');
                    break;
                case 2:
                    all.append(x.fact(k, n - 1, 0)).append(x.fact(k, n - 1, 1)).append(' ').append(x.fact(k, n - 1, 2));
                    break;
                default:
                    all.append(x.choir(k, n)).append(' ');
                    break;
            }
        }
        return all.toString();
    }

    private static String some(String[] texts) {
        return texts[RANDOM.nextInt(texts.length)];
    }

    private static int odd() {
        return ODD[RANDOM.nextInt(ODD.length)];
    }

    /** All that is told, kept as texts. */
    private static final class Known {
        String tape = "";
        int[] fault = {0, -1};
        final List<List<String>> texts = new ArrayList<>();

        Known() {
            for (int sort = 0; sort < 4; sort++) {
                texts.add(new ArrayList<>());
            }
        }

        Known(Known other) {
            tape = other.tape;
            fault = other.fault;
            for (List<String> each : other.texts) {
                texts.add(new ArrayList<>(each));
            }
        }

        int text(int sort, int at) {
            String text = tape;
            tape = "";
            fault = new int[] {0, -1};
            if (!Arrays.asList(0, 1, 2, 3).contains(sort)) {
                return -2;
            }
            List<String> there = texts.get(sort);
            if (at == -1 ? there.size() == 2 : at < 0 || at >= there.size()) {
                return -2;
            }
            fault = FaultModelTest.fault(sort, text);
            if (fault[0] != 0) {
                return -1;
            }
            if (at == -1) {
                there.add(text);
                return there.size() - 1;
            }
            there.set(at, text);
            return at;
        }
    }
}
