import java.util.ArrayList;
import java.util.HashMap;
import java.util.List;
import java.util.Map;
import java.util.Random;
import java.util.regex.Matcher;
import java.util.regex.Pattern;

/** FAULTS of texts that are spoilt by chance, compared with a reader of regular expressions. */
public final class FaultModelTest {
    private static final Random RANDOM = new Random(34);
    private static final Pattern TOKEN = Pattern.compile("[a-z]+|[0-9]+|;");
    private static final String[][] SORTS = {
        {"hut 0-99", "village h0-8", "dam h0-8", "deep 1-9", "slide 0-10", "way h0-8 h0-8 1-9", "echo h0-8 h0-8",
            "ladder h0-8 0-9", "singer h0-8 0-9", "knows s0-5 0-4"},
        {"begin 0-5 0-4", "sing 0-5 0-4", "whistle 0-5 0-4", "walk 0-5 0-8", "climb 0-5", "descend 0-5"},
        {"heard 0-8 0-60", "mute 0-8 0-60"},
        {"voice 0-3 0-9", "step 0-9"}};
    private static final Map<String, Integer> MOST = Map.of("hut", 9, "echo", 4, "singer", 6, "deed", 40, "fact", 10, "voice", 9);

    public static void main(String[] args) {
        for (int round = 0; round < 60000; round++) {
            int sort = RANDOM.nextInt(4);
            String text = spoilt(text(sort));
            int[] want = fault(sort, text);
            DownhillSong x = new DownhillSong();
            Check.due("text " + sort + " " + text, Check.tell(x, sort, -1, text), want[0] == 0 ? 0 : -1);
            Check.due("FAULT of " + text, x.fault(0), want[0]);
            Check.due("place of " + text, x.fault(1), want[1]);
        }
        Check.finish();
    }

    private static String text(int sort) {
        StringBuilder text = new StringBuilder();
        int lines = RANDOM.nextInt(RANDOM.nextInt(4) == 0 ? 60 : 12);
        if (sort == 0) {
            text.append("hut 5;".repeat(RANDOM.nextInt(10))).append("singer 0 0;".repeat(RANDOM.nextInt(7)));
        }
        for (int k = 0; k < lines; k++) {
            String[] form = SORTS[sort][RANDOM.nextInt(SORTS[sort].length)].split(" ");
            text.append(form[0]);
            for (int i = 1; i < form.length; i++) {
                int[] range = range(form[i]);
                int top = Math.min(99, range[1] + (RANDOM.nextInt(60) == 0 ? 3 : 0));
                int low = RANDOM.nextInt(40) == 0 ? 0 : range[0];
                text.append(RANDOM.nextInt(9) == 0 ? "\n " : " ").append(low + RANDOM.nextInt(top - low + 1));
            }
            text.append(RANDOM.nextInt(9) == 0 ? " ; " : ";");
        }
        return text.substring(0, Math.min(600, text.length()));
    }

    private static String spoilt(String text) {
        StringBuilder all = new StringBuilder(text);
        for (int k = RANDOM.nextInt(3) == 0 ? 1 + RANDOM.nextInt(2) : 0; k > 0 && all.length() > 0; k--) {
            int at = RANDOM.nextInt(all.length());
            int how = RANDOM.nextInt(3);
            String signs = "09;; \nhz!A\t";
            char sign = RANDOM.nextInt(12) == 0 ? (char) RANDOM.nextInt(256) : signs.charAt(RANDOM.nextInt(signs.length()));
            if (how == 0) {
                all.deleteCharAt(at);
            } else if (how == 1) {
                all.setCharAt(at, sign);
            } else if (all.length() < 600) {
                all.insert(at, sign);
            }
        }
        return all.toString();
    }

    private static int[] range(String form) {
        String[] two = form.replaceAll("[hs]", "").split("-");
        return new int[] {Integer.parseInt(two[0]), Integer.parseInt(two[1])};
    }

    /** The FAULT of a text and its place, 0 and -1 without. */
    static int[] fault(int sort, String text) {
        List<String> tokens = new ArrayList<>();
        List<Integer> places = new ArrayList<>();
        int bad = split(text, tokens, places);
        tokens.add("");
        places.add(bad == -1 ? text.length() : bad);
        int later = 0;
        int laterPlace = -1;
        Map<String, Integer> counts = new HashMap<>();
        int topHut = -1;
        int topSinger = -1;
        for (int at = 0; at < tokens.size() - 1 || bad != -1;) {
            String[] form = form(sort, tokens.get(at));
            if (form == null) {
                return new int[] {1, places.get(at)};
            }
            String kind = sort == 1 ? "deed" : sort == 2 ? "fact" : form[0];
            counts.merge(kind, 1, Integer::sum);
            if (later == 0 && counts.get(kind) > MOST.getOrDefault(kind, 10000)) {
                later = 3;
                laterPlace = places.get(at);
            }
            for (int i = 1; i < form.length; i++) {
                String token = tokens.get(at + i);
                if (!token.matches("[0-9]{1,2}")) {
                    return new int[] {1, places.get(at + i)};
                }
                int n = Integer.parseInt(token);
                int[] range = range(form[i]);
                boolean twin = i == 2 && form[i].startsWith("h") && n == Integer.parseInt(tokens.get(at + 1));
                if (later == 0 && (n < range[0] || n > range[1] || twin)) {
                    later = 2;
                    laterPlace = places.get(at + i);
                }
                topHut = form[i].startsWith("h") ? Math.max(topHut, n) : topHut;
                topSinger = form[i].startsWith("s") ? Math.max(topSinger, n) : topSinger;
            }
            if (!tokens.get(at + form.length).equals(";")) {
                return new int[] {1, places.get(at + form.length)};
            }
            at += form.length + 1;
        }
        if (later == 0 && (topHut >= counts.getOrDefault("hut", 0) || topSinger >= counts.getOrDefault("singer", 0))) {
            return new int[] {4, text.length()};
        }
        return new int[] {later, laterPlace};
    }

    /** The tokens up to the first byte with which none begins: its place, -1 if there is none. */
    private static int split(String text, List<String> tokens, List<Integer> places) {
        Matcher matcher = TOKEN.matcher(text);
        int at = 0;
        while (true) {
            while (at < text.length() && (text.charAt(at) == ' ' || text.charAt(at) == '\n')) {
                at++;
            }
            if (at == text.length()) {
                return -1;
            }
            matcher.region(at, text.length());
            if (!matcher.lookingAt() || matcher.group().matches("[0-9]{3,}")) {
                return at;
            }
            tokens.add(matcher.group());
            places.add(at);
            at = matcher.end();
        }
    }

    private static String[] form(int sort, String word) {
        for (String form : SORTS[sort]) {
            if (form.split(" ")[0].equals(word)) {
                return form.split(" ");
            }
        }
        return null;
    }
}
