import java.util.ArrayList;
import java.util.List;
import java.util.Random;

/** Compares the class with the plain model, over LANDS, EVENINGS, SIGHTS and CHOIRS of a fixed seed. */
public final class ModelTest {
    private static final String[] DEEDS = {"begin", "sing", "whistle", "walk", "climb", "descend"};
    private static final Random RANDOM = new Random(20261118);

    public static void main(String[] args) {
        for (int round = 0; round < 430; round++) {
            // The last ones are as large as may be.
            Model model = round < 400 ? land(1 + below(7), below(6)) : land(9, 6);
            DownhillSong x = new DownhillSong();
            if (model.text().length() > 600) {
                continue;
            }
            Check.told(x, Check.LAND, model.text());
            pairs(x, model);
            sets(x, model);
            sight(x, model);
            singers(x, model);
            evening(x, model);
            draws(x, model);
            choir(x, round < 400 ? below(8) : 9 - round % 2);
        }
        Check.finish();
    }

    private static int below(int n) {
        return RANDOM.nextInt(n);
    }

    private static Model land(int huts, int singers) {
        Model m = new Model();
        m.heights = new int[huts];
        int spread = RANDOM.nextBoolean() ? 100 : 6;
        for (int h = 0; h < huts; h++) {
            m.heights[h] = below(spread);
        }
        int ways = below(huts * 3);
        for (int k = 0; k < ways && huts > 1; k++) {
            int a = below(huts);
            m.way(a, (a + 1 + below(huts - 1)) % huts, 1 + below(RANDOM.nextBoolean() ? 9 : 3));
        }
        for (int k = below(4); k > 0; k--) {
            m.villages.add(below(huts));
        }
        for (int k = below(3); k > 0; k--) {
            m.dams.add(below(huts));
        }
        for (int k = below(5); k > 0 && huts > 1; k--) {
            int a = below(huts);
            m.echoes.add(new int[] {a, (a + 1 + below(huts - 1)) % huts});
        }
        for (int h = 0; h < huts; h++) {
            m.ladders[h] = RANDOM.nextBoolean() ? below(10) : 0;
        }
        m.deep = 1 + below(3);
        m.slide = below(11);
        for (int s = singers; s > 0; s--) {
            m.singers.add(new int[] {below(huts), below(10)});
            m.known.add(new java.util.HashSet<>());
            for (int k = below(4); k > 0; k--) {
                m.known.get(m.known.size() - 1).add(below(5));
            }
        }
        return m;
    }

    private static int noneIfNever(int minute) {
        return minute == Model.NEVER ? -1 : minute;
    }

    private static void pairs(DownhillSong x, Model m) {
        for (int a = 0; a < m.huts(); a++) {
            boolean shutA = m.dams.contains(a);
            int worst = -1;
            for (int b = 0; b < m.huts(); b++) {
                boolean shut = shutA || m.dams.contains(b);
                String two = " " + a + " " + b + " of " + m.text();
                Check.due("comes" + two, x.comes(0, a, b), noneIfNever(m.comes(a, b)));
                List<List<Integer>> routes = m.routes(a, b);
                int most = routes.stream().mapToInt(r -> r.size() - 1).max().orElse(-1);
                Check.due("ROUTES" + two, x.routes(0, a, b, 0), a == b ? -2 : routes.size());
                Check.due("LONGEST" + two, x.routes(0, a, b, 1), a == b ? -2 : most);
                Check.due("STEEP" + two, x.routes(0, a, b, 2), a == b ? -2 : m.steep(a, b));
                int mutes = shut || a == b ? -2 : m.mutes(a, b);
                Check.due("MUTES" + two, x.mutes(0, a, b), mutes);
                if (mutes >= 0 && (worst == -1 || mutes > m.mutes(a, worst))) {
                    worst = b;
                }
                int[] join = shut ? new int[] {-1, -1} : soonest(m, a, b, false);
                Check.due("JOIN" + two, x.join(0, a, b, false), join[0]);
                Check.due("JOIN minute" + two, x.join(0, a, b, true), join[1]);
                // The model is slow at this: of large LANDS some pairs are enough.
                if (m.huts() == 9 && below(12) > 0) {
                    continue;
                }
                int flood = shut || a == b ? -1 : m.flood(a, b);
                Check.due("FLOOD bits" + two, x.flood(0, a, b, true), flood);
                Check.due("FLOOD" + two, x.flood(0, a, b, false), flood == -1 ? -1 : Integer.bitCount(flood));
            }
            Check.due("WORST " + a + " of " + m.text(), x.mutes(0, a, -1), shutA ? -2 : worst);
        }
    }

    private static int[] soonest(Model m, int a, int b, boolean walking) {
        int[] best = {-1, -1};
        for (int h = 0; h < m.huts(); h++) {
            int one = walking ? m.walk(a, h) : m.comes(a, h);
            int other = walking ? m.walk(b, h) : m.comes(b, h);
            int later = Math.max(one, other);
            if (later < Model.NEVER && (best[0] == -1 || later < best[1])) {
                best = new int[] {h, later};
            }
        }
        return best;
    }

    private static void sets(DownhillSong x, Model m) {
        String land = " of " + m.text();
        int best = -1;
        for (int h = 0; h < m.huts(); h++) {
            if (m.last(h) < Model.NEVER && (best == -1 || m.last(h) < m.last(best))) {
                best = h;
            }
        }
        Check.due("BEST" + land, x.best(0, false), best);
        Check.due("BEST minute" + land, x.best(0, true), best == -1 ? -1 : m.last(best));
        for (int k = 0; k < 4; k++) {
            int minute = k == 3 ? 99 : below(12);
            Check.due("ALL " + minute + land, x.villages(0, minute, 0), m.bits(h -> m.last(h) <= minute));
            Check.due("CREW " + minute + land, x.villages(0, minute, 1), m.crew(minute));
            int masses = m.masses(minute);
            Check.due("MASSES " + minute + land, x.masses(0, minute, true), masses);
            Check.due("MASSES " + minute + land, x.masses(0, minute, false), Integer.bitCount(masses));
            for (int h = 0; h < m.huts(); h++) {
                psalm(x, m, h, minute);
            }
        }
        int[][] t = m.times();
        int couples = 0;
        int depth = 0;
        int tops = 0;
        int ends = 0;
        for (int a = 0; a < m.huts(); a++) {
            int to = 0;
            int from = 0;
            for (int b = 0; b < m.huts(); b++) {
                to += a != b && t[a][b] < Model.NEVER ? 1 : 0;
                from += a != b && t[b][a] < Model.NEVER ? 1 : 0;
                depth = Math.max(depth, m.routes(a, b).stream().mapToInt(r -> r.size() - 1).max().orElse(0));
            }
            couples += to;
            tops |= from == 0 && !m.dams.contains(a) ? 1 << a : 0;
            ends |= to == 0 && !m.dams.contains(a) ? 1 << a : 0;
        }
        Check.due("TOPS" + land, x.slopes(0, 0), tops);
        Check.due("ENDS" + land, x.slopes(0, 1), ends);
        Check.due("COUPLES" + land, x.slopes(0, 2), couples);
        Check.due("DEPTH" + land, x.slopes(0, 3), depth);
    }

    private static void psalm(DownhillSong x, Model m, int hut, int noon) {
        String at = "PSALM " + hut + " " + noon + " of " + m.text();
        int from = m.bits(h -> m.comes(h, hut) <= noon);
        int highest = -1;
        int soonest = Model.NEVER;
        for (int h = 0; h < m.huts(); h++) {
            if (Model.in(from, h)) {
                highest = highest == -1 || m.heights[h] > m.heights[highest] ? h : highest;
                soonest = Math.min(soonest, m.comes(h, hut));
            }
        }
        Check.due(at, x.psalm(0, hut, noon, 0), from);
        Check.due(at, x.psalm(0, hut, noon, 1), highest);
        Check.due(at, x.psalm(0, hut, noon, 2), from == 0 ? -1 : noon - soonest);
    }

    private static void sight(DownhillSong x, Model m) {
        List<int[]> facts = new ArrayList<>();
        StringBuilder text = new StringBuilder();
        for (int k = below(4); k > 0; k--) {
            int[] fact = {below(2), below(m.huts()), below(RANDOM.nextBoolean() ? 61 : 8)};
            facts.add(fact);
            text.append(fact[0] == 1 ? "heard " : "mute ").append(fact[1]).append(' ').append(fact[2]).append(";\n");
        }
        Check.told(x, Check.SIGHT, text.toString());
        String at = text + " of " + m.text();
        int fits = m.bits(h -> !m.dams.contains(h)
            && facts.stream().allMatch(f -> m.comes(h, f[1]) <= f[2] == (f[0] == 1)));
        Check.due("FITS " + at, x.fits(0, 0, false), fits);
        int ask = -1;
        int least = 100;
        int[][] t = m.times();
        for (int number = 0; number < 610 && fits != 0; number++) {
            int hut = number % 10;
            int minute = number / 10;
            if (hut >= m.huts()) {
                continue;
            }
            int come = m.bits(h -> Model.in(fits, h) && t[h][hut] <= minute);
            int part = Math.max(Integer.bitCount(come), Integer.bitCount(fits & ~come));
            if (part < least) {
                least = part;
                ask = number;
            }
        }
        Check.due("ASK " + at, x.fits(0, 0, true), ask);
    }

    private static void singers(DownhillSong x, Model m) {
        for (int a = 0; a < m.singers.size(); a++) {
            int home = m.singers.get(a)[0];
            for (int b = 0; b < m.singers.size(); b++) {
                int[] meet = a == b ? new int[] {-1, -1} : soonest(m, home, m.singers.get(b)[0], true);
                Check.due("MEET " + a + b + m.text(), x.meet(0, a, b, false), meet[0]);
                Check.due("MEET minute " + a + b + m.text(), x.meet(0, a, b, true), meet[1]);
            }
            int best = -1;
            int least = Model.NEVER;
            for (int h = 0; h < m.huts(); h++) {
                if (m.walk(home, h) + m.last(h) < least) {
                    best = h;
                    least = m.walk(home, h) + m.last(h);
                }
            }
            Check.due("CARRY " + a + m.text(), x.carry(0, a, false), best);
            Check.due("CARRY minute " + a + m.text(), x.carry(0, a, true), best == -1 ? -1 : least);
        }
    }

    private static void evening(DownhillSong x, Model m) {
        Model.State state = m.new State();
        StringBuilder text = new StringBuilder();
        List<int[]> wanted = new ArrayList<>();
        wanted.add(looked(state));
        boolean going = true;
        int stop = 0;
        int told = 0;
        for (int k = 0; k < 400 && told < 40; k++) {
            int kind = below(6);
            int s = below(6);
            int n = kind == 3 ? below(9) : below(5);
            String line = DEEDS[kind] + " " + s + (kind < 4 ? " " + n : "") + ";";
            if (text.length() + line.length() > 600) {
                break;
            }
            boolean done = going && state.act(DEEDS[kind], s, n);
            // Most of what can't be is left out, so that evenings get long.
            if (!done && going && below(150) > 0) {
                continue;
            }
            told++;
            text.append(line);
            going &= done;
            if (done) {
                stop++;
                wanted.add(looked(state));
            }
        }
        Check.told(x, Check.EVENING, text.toString());
        String at = text + " in " + m.text();
        Check.due("STOP " + at, x.stop(0, 0), stop);
        for (int n = 0; n <= stop; n++) {
            int[] want = wanted.get(n);
            for (int what = 0; what < 80; what++) {
                Check.due("state " + n + " " + what + " " + at, x.state(0, 0, n, what), want[what]);
            }
            for (int song = 0; song < 5; song++) {
                Check.due("TEACH " + n + " " + song + " " + at, x.teach(0, 0, n, song), want[80 + song]);
            }
        }
        Check.due("behind STOP " + at, x.state(0, 0, stop + 1, 0), -1000);
        Check.due("EXPECTED " + at, x.odds(0, 0, 2), (10 - m.slide) * state.avalanches);
    }

    private static int[] looked(Model.State state) {
        int[] all = new int[85];
        for (int what = 0; what < 80; what++) {
            all[what] = state.look(what);
        }
        for (int song = 0; song < 5; song++) {
            all[80 + song] = state.teach(song);
        }
        return all;
    }

    private static void draws(DownhillSong x, Model m) {
        int seed = RANDOM.nextInt();
        int n = below(61);
        int now = seed;
        Model.State state = m.new State();
        for (int k = 0; k < n && !m.singers.isEmpty(); k++) {
            int[] draws = new int[3];
            for (int i = 0; i < 3; i++) {
                now = now * 1103515245 + 12345;
                draws[i] = now >>> 16;
            }
            int s = draws[0] % m.singers.size();
            int song = draws[2] % 5;
            if (draws[1] % 8 <= 2) {
                state.act("walk", s, draws[2] % m.huts());
            } else {
                state.act(state.level[song] == null ? "begin" : "sing", s, song);
            }
        }
        for (int what = 0; what < 80; what++) {
            int want = m.singers.isEmpty() ? -1000 : state.look(what);
            Check.due("drawn " + seed + " " + n + " " + what + " in " + m.text(), x.drawn(0, seed, n, what), want);
        }
    }

    private static void choir(DownhillSong x, int many) {
        List<int[]> voices = new ArrayList<>();
        StringBuilder text = new StringBuilder();
        int parts = 2 + below(3);
        int high = RANDOM.nextBoolean() ? 10 : 4;
        for (int k = many; k > 0; k--) {
            voices.add(new int[] {below(parts), below(high)});
            int[] voice = voices.get(voices.size() - 1);
            text.append("voice ").append(voice[0]).append(' ').append(voice[1]).append(';');
        }
        int step = below(5);
        text.append("step ").append(step).append(';');
        Check.told(x, Check.CHOIR, text.toString());
        List<int[]> orders = Model.orders(voices, step);
        Check.due("ORDERS " + text, x.orders(0), orders.size());
        for (int k = 0; k < voices.size(); k++) {
            Check.due("VOICE " + k + " " + text, x.order(0, k), orders.isEmpty() ? -1 : orders.get(0)[k]);
        }
        int least = -1;
        for (int s = 9; s >= 0; s--) {
            least = Model.orders(voices, s).isEmpty() ? least : s;
        }
        Check.due("LEAST STEP " + text, x.choir(0, 2), least);
        int fall = 0;
        for (int from = 0; from < voices.size(); from++) {
            int to = from + 1;
            while (to < voices.size() && voices.get(to)[1] < voices.get(to - 1)[1]) {
                to++;
            }
            fall = Math.max(fall, to - from);
        }
        Check.due("FALL " + text, x.choir(0, 3), fall);
    }
}
