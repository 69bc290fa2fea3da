import java.util.ArrayList;
import java.util.Arrays;
import java.util.HashSet;
import java.util.List;
import java.util.Set;
import java.util.TreeMap;
import java.util.function.IntPredicate;

/** The document once more, as plainly and slowly as can be: what the class is compared with. */
final class Model {
    static final int NEVER = 1_000_000;

    int[] heights = {};
    final TreeMap<Integer, Integer> ways = new TreeMap<>();
    final Set<Integer> villages = new HashSet<>();
    final Set<Integer> dams = new HashSet<>();
    final List<int[]> echoes = new ArrayList<>();
    final int[] ladders = new int[9];
    int deep = 2;
    int slide = 5;
    final List<int[]> singers = new ArrayList<>();
    final List<Set<Integer>> known = new ArrayList<>();

    int huts() {
        return heights.length;
    }

    int minutes(int a, int b) {
        return ways.getOrDefault(Math.min(a, b) * 10 + Math.max(a, b), 0);
    }

    void way(int a, int b, int minutes) {
        ways.put(Math.min(a, b) * 10 + Math.max(a, b), minutes);
    }

    String text() {
        StringBuilder t = new StringBuilder();
        for (int h : heights) {
            t.append("hut ").append(h).append(';');
        }
        ways.forEach((two, m) -> t.append("way ").append(two / 10).append(' ').append(two % 10).append(' ').append(m).append(';'));
        villages.forEach(v -> t.append("village ").append(v).append(';'));
        dams.forEach(v -> t.append("dam ").append(v).append(';'));
        echoes.forEach(e -> t.append("echo ").append(e[0]).append(' ').append(e[1]).append(';'));
        for (int h = 0; h < huts(); h++) {
            if (ladders[h] > 0) {
                t.append("ladder ").append(h).append(' ').append(ladders[h]).append(';');
            }
        }
        t.append("deep ").append(deep).append(";slide ").append(slide).append(';');
        singers.forEach(s -> t.append("singer ").append(s[0]).append(' ').append(s[1]).append(';'));
        for (int s = 0; s < known.size(); s++) {
            for (int song : known.get(s)) {
                t.append("knows ").append(s).append(' ').append(song).append(';');
            }
        }
        return t.toString();
    }

    // COMES, minute by minute.
    int comes(int from, int to, Set<Integer> shut) {
        if (shut.contains(from) || shut.contains(to)) {
            return NEVER;
        }
        Set<Integer> at = new HashSet<>();
        TreeMap<Integer, Set<Integer>> coming = new TreeMap<>();
        coming.computeIfAbsent(0, k -> new HashSet<>()).add(from);
        for (int minute = 0; minute < 200; minute++) {
            Set<Integer> fresh = coming.getOrDefault(minute, Set.of());
            while (!fresh.isEmpty()) {
                Set<Integer> next = new HashSet<>();
                for (int h : fresh) {
                    if (shut.contains(h) || !at.add(h)) {
                        continue;
                    }
                    if (h == to) {
                        return minute;
                    }
                    for (int b = 0; b < huts(); b++) {
                        if (minutes(h, b) > 0 && heights[b] < heights[h]) {
                            coming.computeIfAbsent(minute + minutes(h, b), k -> new HashSet<>()).add(b);
                        }
                    }
                    for (int[] e : echoes) {
                        if (e[0] == h) {
                            next.add(e[1]);
                        }
                    }
                }
                fresh = next;
            }
        }
        return NEVER;
    }

    int comes(int from, int to) {
        return comes(from, to, dams);
    }

    int walk(int from, int to) {
        return walk(from, to, new HashSet<>());
    }

    private int walk(int from, int to, Set<Integer> seen) {
        if (from == to) {
            return 0;
        }
        int best = NEVER;
        seen.add(from);
        for (int b = 0; b < huts(); b++) {
            if (minutes(from, b) > 0 && !seen.contains(b)) {
                best = Math.min(best, minutes(from, b) + walk(b, to, seen));
            }
        }
        seen.remove(from);
        return best;
    }

    int last(int from) {
        int last = dams.contains(from) ? NEVER : 0;
        for (int v : villages) {
            if (!dams.contains(v)) {
                last = Math.max(last, comes(from, v));
            }
        }
        return last;
    }

    int bits(IntPredicate which) {
        int bits = 0;
        for (int h = 0; h < huts(); h++) {
            bits |= which.test(h) ? 1 << h : 0;
        }
        return bits;
    }

    /** Of the sets of HUTS that do, the smallest, of several the least number. */
    int fewest(IntPredicate does) {
        List<Integer> sets = new ArrayList<>();
        for (int set = 0; set < 1 << huts(); set++) {
            sets.add(set);
        }
        sets.sort((a, b) -> Integer.bitCount(a) != Integer.bitCount(b) ? Integer.bitCount(a) - Integer.bitCount(b) : a - b);
        for (int set : sets) {
            if (does.test(set)) {
                return set;
            }
        }
        return -1;
    }

    static boolean in(int set, int h) {
        return (set & 1 << h) != 0;
    }

    int crew(int minute) {
        int[][] times = times();
        return fewest(set -> villages.stream().allMatch(v -> {
            for (int h = 0; h < huts(); h++) {
                if (in(set, h) && times[h][v] <= minute) {
                    return true;
                }
            }
            return false;
        }));
    }

    int masses(int k) {
        return fewest(set -> villages.stream().allMatch(v -> {
            for (int h = 0; h < huts(); h++) {
                if (in(set, h) && walk(h, v) <= k) {
                    return true;
                }
            }
            return false;
        }));
    }

    int[][] times() {
        int[][] times = new int[huts()][huts()];
        for (int a = 0; a < huts(); a++) {
            for (int b = 0; b < huts(); b++) {
                times[a][b] = comes(a, b);
            }
        }
        return times;
    }

    /** All ROUTES, each as its HUTS. */
    List<List<Integer>> routes(int from, int to) {
        List<List<Integer>> found = new ArrayList<>();
        if (!dams.contains(from)) {
            descend(new ArrayList<>(List.of(from)), to, found);
        }
        return found;
    }

    private void descend(List<Integer> path, int to, List<List<Integer>> found) {
        int at = path.get(path.size() - 1);
        if (at == to) {
            found.add(new ArrayList<>(path));
            return;
        }
        for (int b = 0; b < huts(); b++) {
            if (minutes(at, b) > 0 && heights[b] < heights[at] && !dams.contains(b)) {
                path.add(b);
                descend(path, to, found);
                path.remove(path.size() - 1);
            }
        }
    }

    int steep(int from, int to) {
        return routes(from, to).stream().mapToInt(path -> {
            int most = 0;
            for (int i = 1; i < path.size(); i++) {
                most = Math.max(most, heights[path.get(i - 1)] - heights[path.get(i)]);
            }
            return most;
        }).min().orElse(-1);
    }

    int mutes(int a, int hut) {
        Set<Integer> more = new HashSet<>(dams);
        more.add(hut);
        int sum = 0;
        for (int h = 0; h < huts(); h++) {
            if (h != a && h != hut && comes(a, h) < NEVER && comes(a, h, more) == NEVER) {
                sum++;
            }
        }
        return sum;
    }

    int flood(int from, int to) {
        return fewest(set -> {
            if (in(set, from) || in(set, to)) {
                return false;
            }
            Set<Integer> more = new HashSet<>(dams);
            for (int h = 0; h < huts(); h++) {
                if (in(set, h)) {
                    more.add(h);
                }
            }
            return comes(from, to, more) == NEVER;
        });
    }

    /** A STATE, and what can be asked of it. */
    final class State {
        int minute;
        int avalanches;
        final int[] at = singers.stream().mapToInt(s -> s[0]).toArray();
        final boolean[] up = new boolean[singers.size()];
        final List<Set<Integer>> knows = new ArrayList<>();
        final Integer[] level = new Integer[5];
        final int[] snow = new int[9];

        State() {
            known.forEach(k -> knows.add(new HashSet<>(k)));
        }

        int high(int s) {
            return heights[at[s]] - singers.get(s)[1] + (up[s] ? ladders[at[s]] : 0);
        }

        boolean cut(int hut) {
            return snow[hut] >= deep;
        }

        /** Does it if it can be. */
        boolean act(String deed, int s, int n) {
            if (s >= singers.size()) {
                return false;
            }
            if (deed.equals("walk")) {
                if (n >= huts() || minutes(at[s], n) == 0 || cut(n) || cut(at[s]) || up[s]) {
                    return false;
                }
                minute += minutes(at[s], n);
                at[s] = n;
                return true;
            }
            if (deed.equals("climb") || deed.equals("descend")) {
                boolean climbs = deed.equals("climb");
                if (up[s] == climbs || ladders[at[s]] == 0) {
                    return false;
                }
                up[s] = climbs;
                return true;
            }
            if (!knows.get(s).contains(n) || dams.contains(at[s]) || deed.equals("begin") != (level[n] == null)) {
                return false;
            }
            if (deed.equals("sing") && high(s) >= level[n] || deed.equals("whistle") && high(s) > level[n]) {
                avalanches++;
                snow[at[s]]++;
            }
            level[n] = high(s);
            for (int other = 0; other < at.length; other++) {
                if (hears(at[s], at[other])) {
                    knows.get(other).add(n);
                }
            }
            return true;
        }

        boolean hears(int from, int hut) {
            return from == hut || !dams.contains(hut) && echoes.stream().anyMatch(e -> e[0] == from && e[1] == hut);
        }

        boolean doneFor(int song) {
            if (level[song] == null) {
                return false;
            }
            for (int s = 0; s < at.length; s++) {
                Set<Integer> seen = new HashSet<>();
                roam(at[s], seen);
                for (int h : seen) {
                    if (knows.get(s).contains(song) && !dams.contains(h) && heights[h] - singers.get(s)[1] < level[song]) {
                        return false;
                    }
                }
            }
            return true;
        }

        private void roam(int hut, Set<Integer> seen) {
            if (seen.add(hut)) {
                for (int b = 0; b < huts(); b++) {
                    if (minutes(hut, b) > 0 && !cut(hut) && !cut(b)) {
                        roam(b, seen);
                    }
                }
            }
        }

        int teach(int song) {
            Set<Integer> who = new HashSet<>();
            for (int s = 0; s < at.length; s++) {
                if (knows.get(s).contains(song)) {
                    who.add(s);
                }
            }
            int times = teach(who, level[song] == null ? NEVER : level[song]);
            return times == NEVER ? -1 : times;
        }

        private int teach(Set<Integer> who, int below) {
            if (who.size() == at.length) {
                return 0;
            }
            int best = NEVER;
            for (int s : who) {
                if (high(s) < below && !dams.contains(at[s])) {
                    Set<Integer> more = new HashSet<>(who);
                    for (int other = 0; other < at.length; other++) {
                        if (hears(at[s], at[other])) {
                            more.add(other);
                        }
                    }
                    best = Math.min(best, Math.min(NEVER - 1, teach(more, high(s))) + 1);
                }
            }
            return best;
        }

        int look(int what) {
            int k = what % 10;
            int begun = 0;
            int done = 0;
            int fame = 0;
            for (int t = 0; t < 5; t++) {
                begun |= level[t] == null ? 0 : 1 << t;
                done |= doneFor(t) ? 1 << t : 0;
            }
            int seers = 0;
            for (int s = 0; s < at.length; s++) {
                boolean all = true;
                for (int t = 0; t < 5; t++) {
                    all &= level[t] == null || knows.get(s).contains(t);
                }
                seers |= all ? 1 << s : 0;
                fame += knows.get(s).contains(k) ? 1 : 0;
            }
            int tens = what / 10;
            if (tens == 0) {
                return k > 4 ? -1000 : new int[] {minute, avalanches, seers, begun, done}[k];
            }
            if (tens <= 2) {
                return k > 4 ? -1000 : tens == 2 ? fame : level[k] == null ? -1 : level[k];
            }
            if (tens == 7) {
                return k < huts() ? snow[k] : -1000;
            }
            if (tens > 7 || k >= at.length) {
                return -1000;
            }
            int bits = knows.get(k).stream().mapToInt(t -> 1 << t).sum();
            return new int[] {at[k], bits, up[k] ? 1 : 0, high(k)}[tens - 3];
        }
    }

    /** Orders of a CHOIR by trying all rows; voices are {PART, HEIGHT}. */
    static List<int[]> orders(List<int[]> voices, int step) {
        List<int[]> found = new ArrayList<>();
        stand(voices, step, new int[voices.size()], 0, found);
        return found;
    }

    private static void stand(List<int[]> voices, int step, int[] row, int n, List<int[]> found) {
        if (n == row.length) {
            found.add(row.clone());
            return;
        }
        for (int v = 0; v < row.length; v++) {
            int voice = v;
            boolean there = Arrays.stream(row, 0, n).anyMatch(w -> w == voice);
            if (there || n > 0 && (voices.get(v)[0] == voices.get(row[n - 1])[0]
                || voices.get(v)[1] > voices.get(row[n - 1])[1] + step)) {
                continue;
            }
            row[n] = v;
            stand(voices, step, row, n + 1, found);
        }
    }
}
