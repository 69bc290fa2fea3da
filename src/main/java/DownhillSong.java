import java.util.Arrays;

/** Lands, evenings, sights and choirs told as texts, and what can be asked of them. */
public final class DownhillSong {
    public static final int NONE = -1;

    private static final int MISSING = -2;
    private static final int STATELESS = -1000;
    // Longer than any walk or song can take (8 ways of 9 minutes each).
    private static final int FAR = 1000;

    private static final int TAPE_BYTES = 600;
    private static final int FEED_BYTES = 20;
    private static final int SORTS = 4;
    private static final int MOST_OF_SORT = 2;
    private static final int MOST_IMAGES = 3;
    private static final int MOST_HUTS = 9;
    private static final int MOST_ECHOES = 4;
    private static final int MOST_SINGERS = 6;
    private static final int MOST_DEEDS = 40;
    private static final int MOST_FACTS = 10;
    private static final int MOST_VOICES = 9;
    private static final int SONGS = 5;
    private static final int PAIRS = 81;
    private static final int LAST_MINUTE = 99;
    private static final int LAST_ASKED = 60;
    private static final int MOST_TAKEN = 60;
    private static final int MOST_STEPS = 9;
    private static final int MOST_DRAWS = 60;
    private static final int MOST_ODDS = 18;

    private static final int LAND = 0;
    private static final int EVENING = 1;
    private static final int SIGHT = 2;
    private static final int CHOIR = 3;

    private static final int BEGIN = 0;
    private static final int SING = 1;
    private static final int WHISTLE = 2;
    private static final int WALK = 3;
    private static final int CLIMB = 4;
    private static final int DESCEND = 5;

    private final Told told;
    private final Told[] images;
    private final Reader reader;
    private final Night night;
    private final Slope slope;
    private final Rows rows;
    private final Table table;

    public DownhillSong() {
        told = new Told();
        images = new Told[MOST_IMAGES];
        reader = new Reader();
        night = new Night();
        slope = new Slope();
        rows = new Rows();
        table = new Table();
    }

    public int feed(int a, int b, int c, int d, int e) {
        if (told.length + FEED_BYTES > TAPE_BYTES) {
            return NONE;
        }
        told.put(a);
        told.put(b);
        told.put(c);
        told.put(d);
        told.put(e);
        return told.length;
    }

    public int end(int n) {
        if (n < 0 || n > told.length) {
            return NONE;
        }
        told.length = n;
        return n;
    }

    public int text(int sort, int at) {
        int bytes = told.length;
        // The tape is taken whatever the answer, also if no text is read from it.
        told.length = 0;
        told.fault = 0;
        told.place = NONE;
        int number = numberFor(sort, at);
        if (number == MISSING) {
            return MISSING;
        }
        reader.read(told.tape, bytes, sort);
        told.fault = reader.fault;
        told.place = reader.faultPlace;
        if (reader.fault != 0) {
            return NONE;
        }
        keep(sort, number);
        return number;
    }

    public int fault(int what) {
        if (what == 0) {
            return told.fault;
        }
        return what == 1 ? told.place : NONE;
    }

    public int land(int land, int what) {
        Land of = landAt(land);
        return of == null ? NONE : of.look(what);
    }

    public int echo(int land, int k, int what) {
        Land of = landAt(land);
        if (of == null || k < 0 || k >= of.echoes) {
            return NONE;
        }
        if (what == 0) {
            return of.echoFrom[k];
        }
        return what == 1 ? of.echoTo[k] : NONE;
    }

    public int deed(int evening, int k, int what) {
        Evening of = eveningAt(evening);
        if (of == null) {
            return MISSING;
        }
        if (k == NONE && what == 0) {
            return of.deeds;
        }
        return k < 0 || k >= of.deeds ? MISSING : of.look(k, what);
    }

    public int stop(int land, int evening) {
        Land of = landAt(land);
        Evening by = eveningAt(evening);
        return of == null || by == null ? NONE : night.play(of, by, by.deeds);
    }

    public int state(int land, int evening, int n, int what) {
        return reachState(land, evening, n) ? night.look(told.lands[land], what) : STATELESS;
    }

    public int comes(int land, int from, int to) {
        Land of = landAt(land);
        if (of == null || !of.hasHut(from) || !of.hasHut(to)) {
            return NONE;
        }
        slope.hear(of);
        return nearOrNone(slope.heard[from * MOST_HUTS + to]);
    }

    public int villages(int land, int minute, int what) {
        Land of = landAt(land);
        if (of == null || minute < 0 || minute > LAST_MINUTE || what < 0 || what > 1) {
            return MISSING;
        }
        slope.hear(of);
        return what == 0 ? slope.allBy(of, minute) : slope.crewBy(of, minute);
    }

    public int best(int land, boolean minute) {
        Land of = landAt(land);
        if (of == null) {
            return NONE;
        }
        slope.hear(of);
        int hut = slope.bestHut(of);
        return hut == NONE || !minute ? hut : slope.lastVillage(of, hut);
    }

    public int routes(int land, int from, int to, int what) {
        Land of = landAt(land);
        if (of == null || !of.hasHut(from) || !of.hasHut(to) || from == to || what < 0 || what > 2) {
            return MISSING;
        }
        slope.trace(of, from);
        if (what == 0) {
            return slope.total[to];
        }
        if (slope.total[to] == 0) {
            return NONE;
        }
        return what == 1 ? slope.longest[to] : slope.steepest(of, from, to);
    }

    public int mutes(int land, int a, int hut) {
        Land of = landAt(land);
        if (of == null || !of.isOpen(a)) {
            return MISSING;
        }
        if (hut != NONE && (!of.isOpen(hut) || hut == a)) {
            return MISSING;
        }
        slope.link(of);
        return hut == NONE ? slope.worst(of, a) : slope.muted(a, hut);
    }

    public int masses(int land, int k, boolean bits) {
        Land of = landAt(land);
        if (of == null || k < 0 || k > LAST_MINUTE) {
            return NONE;
        }
        int held = slope.massesWithin(of, k);
        return bits ? held : Integer.bitCount(held);
    }

    public int fact(int sight, int k, int what) {
        Sight of = sightAt(sight);
        if (of == null) {
            return MISSING;
        }
        if (k == NONE && what == 0) {
            return of.facts;
        }
        return k < 0 || k >= of.facts ? MISSING : of.look(k, what);
    }

    public int fits(int land, int sight, boolean ask) {
        Land of = landAt(land);
        Sight by = sightAt(sight);
        if (of == null || by == null || !by.staysWithin(of.huts)) {
            return MISSING;
        }
        slope.hear(of);
        int fitting = slope.fitting(of, by);
        return ask ? slope.question(of, fitting) : fitting;
    }

    public int choir(int choir, int what) {
        Choir of = choirAt(choir);
        if (of == null) {
            return NONE;
        }
        return what == 2 ? rows.leastStep(of) : of.look(what);
    }

    public long orders(int choir) {
        Choir of = choirAt(choir);
        if (of == null) {
            return NONE;
        }
        rows.fill(of);
        return rows.total(of);
    }

    public int order(int choir, int k) {
        Choir of = choirAt(choir);
        if (of == null || k < 0 || k >= of.voices) {
            return NONE;
        }
        rows.fill(of);
        return rows.total(of) == 0 ? NONE : rows.voiceAt(of, k);
    }

    public int trade(int a, int b, int c, boolean take) {
        if (a < 0 || a > MOST_TAKEN || b < 0 || b > MOST_TAKEN || c < 1 || c > MOST_STEPS) {
            return MISSING;
        }
        table.lay(a, b, c);
        int first = table.firstTake(a, b, c);
        if (take) {
            return first;
        }
        return first == NONE ? 0 : 1;
    }

    public long odds(int land, int evening, int what) {
        Land of = landAt(land);
        Evening by = eveningAt(evening);
        if (of == null || by == null || what < 0 || what > 2) {
            return NONE;
        }
        night.play(of, by, by.deeds);
        if (what == 2) {
            return night.avalanches * (10 - of.slide);
        }
        if (night.avalanches > MOST_ODDS) {
            return NONE;
        }
        int shared = sharedDivisor(of.slide);
        return power((what == 0 ? of.slide : 10) / shared, night.avalanches);
    }

    public int drawn(int land, int seed, int n, int what) {
        Land of = landAt(land);
        if (of == null || of.singers == 0 || n < 0 || n > MOST_DRAWS) {
            return STATELESS;
        }
        night.draw(of, seed, n);
        return night.look(of, what);
    }

    public int psalm(int land, int hut, int noon, int what) {
        Land of = landAt(land);
        if (of == null || !of.hasHut(hut) || noon < 0 || noon > LAST_MINUTE || what < 0 || what > 2) {
            return MISSING;
        }
        slope.hear(of);
        int from = slope.fromBy(of, hut, noon);
        if (what == 0) {
            return from;
        }
        if (from == 0) {
            return NONE;
        }
        return what == 1 ? of.highest(from) : noon - slope.soonest(of, hut);
    }

    public int meet(int land, int a, int b, boolean minute) {
        Land of = landAt(land);
        if (of == null || !of.hasSinger(a) || !of.hasSinger(b) || a == b) {
            return NONE;
        }
        slope.walk(of);
        return slope.together(of, slope.walked, of.homes[a], of.homes[b], minute);
    }

    public int carry(int land, int singer, boolean minute) {
        Land of = landAt(land);
        if (of == null || !of.hasSinger(singer)) {
            return NONE;
        }
        slope.hear(of);
        slope.walk(of);
        return slope.carried(of, of.homes[singer], minute);
    }

    public int join(int land, int a, int b, boolean minute) {
        Land of = landAt(land);
        if (of == null || !of.isOpen(a) || !of.isOpen(b)) {
            return NONE;
        }
        slope.hear(of);
        return slope.together(of, slope.heard, a, b, minute);
    }

    public int slopes(int land, int what) {
        Land of = landAt(land);
        if (of == null) {
            return NONE;
        }
        slope.hear(of);
        switch (what) {
            case 0:
                return slope.tops(of);
            case 1:
                return slope.ends(of);
            case 2:
                return slope.couples(of);
            case 3:
                return slope.depth(of);
            default:
                return NONE;
        }
    }

    public int flood(int land, int from, int to, boolean bits) {
        Land of = landAt(land);
        if (of == null || !of.isOpen(from) || !of.isOpen(to) || from == to) {
            return NONE;
        }
        slope.link(of);
        int dams = slope.fewestDams(of, from, to);
        return dams == NONE || bits ? dams : Integer.bitCount(dams);
    }

    public int teach(int land, int evening, int n, int song) {
        if (song < 0 || song >= SONGS || !reachState(land, evening, n)) {
            return NONE;
        }
        return night.fewestTimes(told.lands[land], song);
    }

    public int count(int sort) {
        return sort < 0 || sort >= SORTS ? MISSING : told.counts[sort];
    }

    public boolean image(int k) {
        if (k < 0 || k >= MOST_IMAGES) {
            return false;
        }
        if (images[k] == null) {
            images[k] = new Told();
        }
        images[k].copyFrom(told);
        return true;
    }

    public boolean again(int k) {
        if (k < 0 || k >= MOST_IMAGES || images[k] == null) {
            return false;
        }
        told.copyFrom(images[k]);
        return true;
    }

    /** The number that a text would get, or MISSING. */
    private int numberFor(int sort, int at) {
        if (sort < 0 || sort >= SORTS) {
            return MISSING;
        }
        int there = told.counts[sort];
        if (at == NONE) {
            return there < MOST_OF_SORT ? there : MISSING;
        }
        return at >= 0 && at < there ? at : MISSING;
    }

    private void keep(int sort, int number) {
        if (sort == LAND) {
            told.lands[number].copyFrom(reader.land);
        } else if (sort == EVENING) {
            told.evenings[number].copyFrom(reader.evening);
        } else if (sort == SIGHT) {
            told.sights[number].copyFrom(reader.sight);
        } else {
            told.choirs[number].copyFrom(reader.choir);
        }
        told.counts[sort] = Math.max(told.counts[sort], number + 1);
    }

    private Land landAt(int k) {
        return k >= 0 && k < told.counts[LAND] ? told.lands[k] : null;
    }

    private Evening eveningAt(int k) {
        return k >= 0 && k < told.counts[EVENING] ? told.evenings[k] : null;
    }

    private Sight sightAt(int k) {
        return k >= 0 && k < told.counts[SIGHT] ? told.sights[k] : null;
    }

    private Choir choirAt(int k) {
        return k >= 0 && k < told.counts[CHOIR] ? told.choirs[k] : null;
    }

    /** Brings the night to the STATE behind n DEEDS; false if there is no such STATE. */
    private boolean reachState(int land, int evening, int n) {
        Land of = landAt(land);
        Evening by = eveningAt(evening);
        if (of == null || by == null || n < 0 || n > by.deeds) {
            return false;
        }
        return night.play(of, by, n) == n;
    }

    private static int nearOrNone(int minute) {
        return minute < FAR ? minute : NONE;
    }

    /** The greatest number that divides both 10 and slide. */
    private static int sharedDivisor(int slide) {
        if (slide % 10 == 0) {
            return 10;
        }
        if (slide % 5 == 0) {
            return 5;
        }
        return slide % 2 == 0 ? 2 : 1;
    }

    private static long power(int base, int times) {
        long result = 1;
        for (int i = 0; i < times; i++) {
            result *= base;
        }
        return result;
    }

    private static boolean has(int bits, int k) {
        return (bits >> k & 1) != 0;
    }

    /** All that is told, so that an image is one copy. */
    static final class Told {
        final byte[] tape = new byte[TAPE_BYTES];
        int length;
        int fault;
        int place = NONE;
        final int[] counts = new int[SORTS];
        final Land[] lands = {new Land(), new Land()};
        final Evening[] evenings = {new Evening(), new Evening()};
        final Sight[] sights = {new Sight(), new Sight()};
        final Choir[] choirs = {new Choir(), new Choir()};

        void put(int number) {
            for (int shift = 24; shift >= 0 && length < TAPE_BYTES; shift -= 8) {
                tape[length] = (byte) (number >>> shift);
                length++;
            }
        }

        void copyFrom(Told other) {
            System.arraycopy(other.tape, 0, tape, 0, other.length);
            length = other.length;
            fault = other.fault;
            place = other.place;
            System.arraycopy(other.counts, 0, counts, 0, SORTS);
            for (int k = 0; k < MOST_OF_SORT; k++) {
                lands[k].copyFrom(other.lands[k]);
                evenings[k].copyFrom(other.evenings[k]);
                sights[k].copyFrom(other.sights[k]);
                choirs[k].copyFrom(other.choirs[k]);
            }
        }
    }

    static final class Land {
        int huts;
        int singers;
        int villages;
        int dams;
        int echoes;
        int deep = 2;
        int slide = 5;
        final int[] heights = new int[MOST_HUTS];
        final int[] ladders = new int[MOST_HUTS];
        final int[] minutes = new int[PAIRS];
        final int[] echoFrom = new int[MOST_ECHOES];
        final int[] echoTo = new int[MOST_ECHOES];
        final int[] homes = new int[MOST_SINGERS];
        final int[] talls = new int[MOST_SINGERS];
        final int[] known = new int[MOST_SINGERS];

        void clear() {
            huts = 0;
            singers = 0;
            villages = 0;
            dams = 0;
            echoes = 0;
            deep = 2;
            slide = 5;
            Arrays.fill(ladders, 0);
            Arrays.fill(minutes, 0);
            Arrays.fill(known, 0);
        }

        void copyFrom(Land other) {
            huts = other.huts;
            singers = other.singers;
            villages = other.villages;
            dams = other.dams;
            echoes = other.echoes;
            deep = other.deep;
            slide = other.slide;
            System.arraycopy(other.heights, 0, heights, 0, MOST_HUTS);
            System.arraycopy(other.ladders, 0, ladders, 0, MOST_HUTS);
            System.arraycopy(other.minutes, 0, minutes, 0, PAIRS);
            System.arraycopy(other.echoFrom, 0, echoFrom, 0, MOST_ECHOES);
            System.arraycopy(other.echoTo, 0, echoTo, 0, MOST_ECHOES);
            System.arraycopy(other.homes, 0, homes, 0, MOST_SINGERS);
            System.arraycopy(other.talls, 0, talls, 0, MOST_SINGERS);
            System.arraycopy(other.known, 0, known, 0, MOST_SINGERS);
        }

        boolean hasHut(int h) {
            return h >= 0 && h < huts;
        }

        boolean hasSinger(int s) {
            return s >= 0 && s < singers;
        }

        boolean isDam(int h) {
            return (dams >> h & 1) != 0;
        }

        /** Whether there is such a HUT, and it is no DAM. */
        boolean isOpen(int h) {
            return hasHut(h) && !isDam(h);
        }

        /** Whether a SONG goes by a WAY from HUT a down to HUT b. */
        boolean leads(int a, int b) {
            return minutes[a * MOST_HUTS + b] > 0 && heights[b] < heights[a] && !isDam(a) && !isDam(b);
        }

        /** HUTS (bits) in which a SONG is heard at once that sounds in a HUT. */
        int earshot(int hut) {
            int bits = isDam(hut) ? 0 : 1 << hut;
            for (int k = 0; k < echoes; k++) {
                if (echoFrom[k] == hut && !isDam(echoTo[k])) {
                    bits |= 1 << echoTo[k];
                }
            }
            return bits;
        }

        int highest(int bits) {
            int best = NONE;
            for (int h = 0; h < huts; h++) {
                if (has(bits, h) && (best == NONE || heights[h] > heights[best])) {
                    best = h;
                }
            }
            return best;
        }

        int look(int what) {
            if (what < 0 || what >= 60 + PAIRS) {
                return NONE;
            }
            if (what >= 60) {
                int a = (what - 60) / MOST_HUTS;
                int b = (what - 60) % MOST_HUTS;
                return hasHut(a) && hasHut(b) ? minutes[a * MOST_HUTS + b] : NONE;
            }
            if (what < 10) {
                return lookWhole(what);
            }
            int k = what % 10;
            return what < 30 ? lookHut(what / 10, k) : lookSinger(what / 10, k);
        }

        private int lookWhole(int what) {
            switch (what) {
                case 0:
                    return huts;
                case 1:
                    return singers;
                case 2:
                    return villages;
                case 3:
                    return dams;
                case 4:
                    return echoes;
                case 5:
                    return deep;
                case 6:
                    return slide;
                default:
                    return NONE;
            }
        }

        private int lookHut(int tens, int h) {
            if (!hasHut(h)) {
                return NONE;
            }
            return tens == 1 ? heights[h] : ladders[h];
        }

        private int lookSinger(int tens, int s) {
            if (!hasSinger(s)) {
                return NONE;
            }
            if (tens == 3) {
                return homes[s];
            }
            return tens == 4 ? talls[s] : known[s];
        }
    }

    static final class Evening {
        int deeds;
        final int[] kinds = new int[MOST_DEEDS];
        final int[] firsts = new int[MOST_DEEDS];
        final int[] seconds = new int[MOST_DEEDS];

        void tell(int kind, int first, int second) {
            if (deeds < MOST_DEEDS) {
                kinds[deeds] = kind;
                firsts[deeds] = first;
                seconds[deeds] = second;
                deeds++;
            }
        }

        void copyFrom(Evening other) {
            deeds = other.deeds;
            System.arraycopy(other.kinds, 0, kinds, 0, deeds);
            System.arraycopy(other.firsts, 0, firsts, 0, deeds);
            System.arraycopy(other.seconds, 0, seconds, 0, deeds);
        }

        int look(int k, int what) {
            switch (what) {
                case 0:
                    return kinds[k];
                case 1:
                    return firsts[k];
                case 2:
                    return seconds[k];
                default:
                    return MISSING;
            }
        }
    }

    static final class Sight {
        int facts;
        final int[] heard = new int[MOST_FACTS];
        final int[] huts = new int[MOST_FACTS];
        final int[] minutes = new int[MOST_FACTS];

        void tell(int wasHeard, int hut, int minute) {
            if (facts < MOST_FACTS) {
                heard[facts] = wasHeard;
                huts[facts] = hut;
                minutes[facts] = minute;
                facts++;
            }
        }

        void copyFrom(Sight other) {
            facts = other.facts;
            System.arraycopy(other.heard, 0, heard, 0, facts);
            System.arraycopy(other.huts, 0, huts, 0, facts);
            System.arraycopy(other.minutes, 0, minutes, 0, facts);
        }

        boolean staysWithin(int hutsThere) {
            for (int k = 0; k < facts; k++) {
                if (huts[k] >= hutsThere) {
                    return false;
                }
            }
            return true;
        }

        int look(int k, int what) {
            switch (what) {
                case 0:
                    return heard[k];
                case 1:
                    return huts[k];
                case 2:
                    return minutes[k];
                default:
                    return MISSING;
            }
        }
    }

    static final class Choir {
        int voices;
        int step;
        final int[] parts = new int[MOST_VOICES];
        final int[] heights = new int[MOST_VOICES];

        void tell(int part, int height) {
            if (voices < MOST_VOICES) {
                parts[voices] = part;
                heights[voices] = height;
                voices++;
            }
        }

        void copyFrom(Choir other) {
            voices = other.voices;
            step = other.step;
            System.arraycopy(other.parts, 0, parts, 0, voices);
            System.arraycopy(other.heights, 0, heights, 0, voices);
        }

        /** The STEP by which VOICE b may stand behind VOICE a, FAR if by none. */
        int stepBetween(int a, int b) {
            return parts[a] == parts[b] ? FAR : Math.max(0, heights[b] - heights[a]);
        }

        int longestFall() {
            int most = 0;
            int run = 0;
            for (int k = 0; k < voices; k++) {
                run = k > 0 && heights[k] < heights[k - 1] ? run + 1 : 1;
                most = Math.max(most, run);
            }
            return most;
        }

        int look(int what) {
            if (what == 0) {
                return voices;
            }
            if (what == 1) {
                return step;
            }
            if (what == 3) {
                return longestFall();
            }
            if (what >= 10 && what < 10 + voices) {
                return parts[what - 10];
            }
            return what >= 20 && what < 20 + voices ? heights[what - 20] : NONE;
        }
    }

    /** Reads the tape as a text, token by token, into drafts that are kept only without a FAULT. */
    static final class Reader {
        private static final int END = 0;
        private static final int WORD = 1;
        private static final int NUMBER = 2;
        private static final int STROKE = 3;
        private static final int NO_TOKEN = 4;

        private static final int HUT = 0;
        private static final int VILLAGE = 1;
        private static final int DAM = 2;
        private static final int DEEP = 3;
        private static final int SLIDE = 4;
        private static final int WAY = 5;
        private static final int ECHO = 6;
        private static final int LADDER = 7;
        private static final int SINGER = 8;
        private static final int KNOWS = 9;
        private static final int FIRST_DEED = 10;
        private static final int HEARD = 16;
        private static final int MUTE = 17;
        private static final int VOICE = 18;
        private static final int STEP = 19;

        private static final int MOST_NUMBERS = 3;
        /** The first word of each sort, and behind the last. */
        private static final int[] FIRST_WORDS = {HUT, FIRST_DEED, HEARD, VOICE, STEP + 1};
        private static final int[] NUMBERS = {1, 1, 1, 1, 1, 3, 2, 2, 2, 2, 2, 2, 2, 2, 1, 1, 2, 2, 2, 1};
        private static final int[] LEAST = {
            0, 0, 0, 0, 0, 0, 0, 0, 0, 1, 0, 0, 0, 0, 0, 0, 0, 1, 0, 0, 0, 0, 0, 0, 0, 0, 0, 0, 0, 0,
            0, 0, 0, 0, 0, 0, 0, 0, 0, 0, 0, 0, 0, 0, 0, 0, 0, 0,
            0, 0, 0, 0, 0, 0,
            0, 0, 0, 0, 0, 0};
        private static final int[] MOST = {
            99, 0, 0, 8, 0, 0, 8, 0, 0, 9, 0, 0, 10, 0, 0, 8, 8, 9, 8, 8, 0, 8, 9, 0, 8, 9, 0, 5, 4, 0,
            5, 4, 0, 5, 4, 0, 5, 4, 0, 5, 8, 0, 5, 0, 0, 5, 0, 0,
            8, 60, 0, 8, 60, 0,
            3, 9, 0, 9, 0, 0};

        final Land land = new Land();
        final Evening evening = new Evening();
        final Sight sight = new Sight();
        final Choir choir = new Choir();
        int fault;
        int faultPlace = NONE;
        private final int[] numbers = new int[MOST_NUMBERS];
        private final byte[] tape = new byte[TAPE_BYTES];
        private int length;
        private int behind;
        private int kind;
        private int first;
        private int value;
        // Bits of all HUTS and SINGERS that a line told of, there or not, for FAULT 4.
        private int hutsToldOf;
        private int singersToldOf;

        void read(byte[] from, int bytes, int sort) {
            System.arraycopy(from, 0, tape, 0, bytes);
            length = bytes;
            behind = 0;
            fault = 0;
            faultPlace = NONE;
            clearDraft(sort);
            advance();
            // A line takes a token at least, so there are no more lines than bytes.
            for (int lines = 0; lines < length && kind != END && fault != 1; lines++) {
                readLine(sort);
            }
            if (fault == 0 && sort == LAND && tellsOfMissing()) {
                mark(4, length);
            }
        }

        private void clearDraft(int sort) {
            if (sort == LAND) {
                land.clear();
                hutsToldOf = 0;
                singersToldOf = 0;
            } else if (sort == EVENING) {
                evening.deeds = 0;
            } else if (sort == SIGHT) {
                sight.facts = 0;
            } else {
                choir.voices = 0;
                choir.step = 0;
            }
        }

        private boolean tellsOfMissing() {
            return hutsToldOf >> land.huts != 0 || singersToldOf >> land.singers != 0;
        }

        private void readLine(int sort) {
            int word = wordOf(sort);
            if (word == NONE) {
                refuse();
                return;
            }
            if (isFull(word)) {
                mark(3, first);
            }
            advance();
            for (int k = 0; k < NUMBERS[word]; k++) {
                if (kind != NUMBER) {
                    refuse();
                    return;
                }
                numbers[k] = value;
                if (!canBe(word, k)) {
                    mark(2, first);
                }
                advance();
            }
            if (kind != STROKE) {
                refuse();
                return;
            }
            if (fault == 0) {
                tell(word);
            }
            advance();
        }

        /** FAULT 1 comes before all others, wherever they are. */
        private void refuse() {
            fault = 1;
            faultPlace = first;
        }

        private void mark(int which, int place) {
            if (fault == 0) {
                fault = which;
                faultPlace = place;
            }
        }

        private boolean isFull(int word) {
            if (word >= FIRST_DEED && word < HEARD) {
                return evening.deeds == MOST_DEEDS;
            }
            switch (word) {
                case HUT:
                    return land.huts == MOST_HUTS;
                case ECHO:
                    return land.echoes == MOST_ECHOES;
                case SINGER:
                    return land.singers == MOST_SINGERS;
                case HEARD:
                case MUTE:
                    return sight.facts == MOST_FACTS;
                case VOICE:
                    return choir.voices == MOST_VOICES;
                default:
                    return false;
            }
        }

        private boolean canBe(int word, int k) {
            int at = word * MOST_NUMBERS + k;
            if (numbers[k] < LEAST[at] || numbers[k] > MOST[at]) {
                return false;
            }
            return k != 1 || (word != WAY && word != ECHO) || numbers[1] != numbers[0];
        }

        private void tell(int word) {
            if (word < FIRST_DEED) {
                tellOfLand(word, numbers[0], numbers[1], numbers[2]);
            } else if (word < HEARD) {
                evening.tell(word - FIRST_DEED, numbers[0], NUMBERS[word] > 1 ? numbers[1] : NONE);
            } else if (word < VOICE) {
                sight.tell(word == HEARD ? 1 : 0, numbers[0], numbers[1]);
            } else if (word == VOICE) {
                choir.tell(numbers[0], numbers[1]);
            } else {
                choir.step = numbers[0];
            }
        }

        private void tellOfLand(int word, int a, int b, int c) {
            switch (word) {
                case HUT:
                    land.heights[land.huts] = a;
                    land.huts++;
                    break;
                case VILLAGE:
                    land.villages |= 1 << a;
                    hutsToldOf |= 1 << a;
                    break;
                case DAM:
                    land.dams |= 1 << a;
                    hutsToldOf |= 1 << a;
                    break;
                case DEEP:
                    land.deep = a;
                    break;
                case SLIDE:
                    land.slide = a;
                    break;
                case WAY:
                    land.minutes[a * MOST_HUTS + b] = c;
                    land.minutes[b * MOST_HUTS + a] = c;
                    hutsToldOf |= 1 << a | 1 << b;
                    break;
                case ECHO:
                    land.echoFrom[land.echoes] = a;
                    land.echoTo[land.echoes] = b;
                    land.echoes++;
                    hutsToldOf |= 1 << a | 1 << b;
                    break;
                case LADDER:
                    land.ladders[a] = b;
                    hutsToldOf |= 1 << a;
                    break;
                case SINGER:
                    land.homes[land.singers] = a;
                    land.talls[land.singers] = b;
                    land.singers++;
                    hutsToldOf |= 1 << a;
                    break;
                default:
                    land.known[a] |= 1 << b;
                    singersToldOf |= 1 << a;
                    break;
            }
        }

        /** Goes to the next token: its kind, its first byte, a NUMBER's value. */
        private void advance() {
            int at = behind;
            while (at < length && (tape[at] == 10 || tape[at] == 32)) {
                at++;
            }
            first = at;
            if (at >= length) {
                kind = END;
            } else if (isLetter(tape[at])) {
                kind = WORD;
                while (at < length && isLetter(tape[at])) {
                    at++;
                }
            } else if (isDigit(tape[at])) {
                at = readNumber(at);
            } else {
                kind = tape[at] == ';' ? STROKE : NO_TOKEN;
                at++;
            }
            behind = at;
        }

        private int readNumber(int from) {
            int at = from;
            value = 0;
            while (at < length && isDigit(tape[at])) {
                value = at - from < 2 ? value * 10 + tape[at] - '0' : value;
                at++;
            }
            kind = at - from <= 2 ? NUMBER : NO_TOKEN;
            return at;
        }

        private static boolean isLetter(byte sign) {
            return sign >= 'a' && sign <= 'z';
        }

        private static boolean isDigit(byte sign) {
            return sign >= '0' && sign <= '9';
        }

        /** Which word of a sort the token is, NONE if it is none. */
        private int wordOf(int sort) {
            if (kind != WORD) {
                return NONE;
            }
            for (int word = FIRST_WORDS[sort]; word < FIRST_WORDS[sort + 1]; word++) {
                if (isSpelled(spelling(word))) {
                    return word;
                }
            }
            return NONE;
        }

        private boolean isSpelled(String word) {
            if (word.length() != behind - first) {
                return false;
            }
            for (int i = 0; i < word.length(); i++) {
                if (tape[first + i] != word.charAt(i)) {
                    return false;
                }
            }
            return true;
        }

        private static String spelling(int word) {
            switch (word) {
                case HUT:
                    return "hut";
                case VILLAGE:
                    return "village";
                case DAM:
                    return "dam";
                case DEEP:
                    return "deep";
                case SLIDE:
                    return "slide";
                case WAY:
                    return "way";
                case ECHO:
                    return "echo";
                case LADDER:
                    return "ladder";
                case SINGER:
                    return "singer";
                case KNOWS:
                    return "knows";
                case FIRST_DEED + BEGIN:
                    return "begin";
                case FIRST_DEED + SING:
                    return "sing";
                case FIRST_DEED + WHISTLE:
                    return "whistle";
                case FIRST_DEED + WALK:
                    return "walk";
                case FIRST_DEED + CLIMB:
                    return "climb";
                case FIRST_DEED + DESCEND:
                    return "descend";
                case HEARD:
                    return "heard";
                case MUTE:
                    return "mute";
                case VOICE:
                    return "voice";
                default:
                    return "step";
            }
        }
    }

    /** A STATE of an EVENING, deed by deed. */
    static final class Night {
        int minute;
        int avalanches;
        private int begun;
        private int climbed;
        private int seed;
        private final int[] huts = new int[MOST_SINGERS];
        private final int[] known = new int[MOST_SINGERS];
        private final int[] levels = new int[SONGS];
        private final int[] snow = new int[MOST_HUTS];
        private final int[] open = new int[MOST_HUTS];

        /** Plays the first n DEEDS: how many could be. */
        int play(Land land, Evening evening, int n) {
            start(land);
            for (int k = 0; k < n && k < evening.deeds; k++) {
                if (!act(land, evening.kinds[k], evening.firsts[k], evening.seconds[k])) {
                    return k;
                }
            }
            return n;
        }

        void draw(Land land, int x, int n) {
            start(land);
            seed = x;
            for (int k = 0; k < n; k++) {
                int singer = below(land.singers);
                if (below(8) <= 2) {
                    act(land, WALK, singer, below(land.huts));
                } else {
                    int song = below(SONGS);
                    act(land, has(begun, song) ? SING : BEGIN, singer, song);
                }
            }
        }

        private int below(int n) {
            seed = seed * 1103515245 + 12345;
            return n > 0 ? (seed >>> 16) % n : 0;
        }

        private void start(Land land) {
            minute = 0;
            avalanches = 0;
            begun = 0;
            climbed = 0;
            System.arraycopy(land.homes, 0, huts, 0, MOST_SINGERS);
            System.arraycopy(land.known, 0, known, 0, MOST_SINGERS);
            Arrays.fill(levels, NONE);
            Arrays.fill(snow, 0);
        }

        /** Does a DEED; false, and nothing is done, if it can't be. */
        private boolean act(Land land, int kind, int singer, int number) {
            if (!land.hasSinger(singer)) {
                return false;
            }
            switch (kind) {
                case WALK:
                    return walk(land, singer, number);
                case CLIMB:
                    return climb(land, singer);
                case DESCEND:
                    return descend(singer);
                default:
                    return raise(land, kind, singer, number);
            }
        }

        private boolean walk(Land land, int singer, int hut) {
            int from = huts[singer];
            if (!land.hasHut(hut) || has(climbed, singer) || isCut(land, from) || isCut(land, hut)) {
                return false;
            }
            int way = land.minutes[from * MOST_HUTS + hut];
            if (way == 0) {
                return false;
            }
            minute += way;
            huts[singer] = hut;
            return true;
        }

        private boolean climb(Land land, int singer) {
            if (has(climbed, singer) || land.ladders[huts[singer]] == 0) {
                return false;
            }
            climbed |= 1 << singer;
            return true;
        }

        private boolean descend(int singer) {
            if (!has(climbed, singer)) {
                return false;
            }
            climbed &= ~(1 << singer);
            return true;
        }

        /** begin, sing and whistle. */
        private boolean raise(Land land, int kind, int singer, int song) {
            int hut = huts[singer];
            if (song < 0 || song >= SONGS || !has(known[singer], song) || land.isDam(hut)) {
                return false;
            }
            if (has(begun, song) == (kind == BEGIN)) {
                return false;
            }
            int high = high(land, singer);
            if (isWrong(kind, high, levels[song])) {
                avalanches++;
                snow[hut]++;
            }
            begun |= 1 << song;
            levels[song] = high;
            int hearers = singersIn(land, land.earshot(hut));
            for (int s = 0; s < land.singers; s++) {
                if (has(hearers, s)) {
                    known[s] |= 1 << song;
                }
            }
            return true;
        }

        private static boolean isWrong(int kind, int high, int level) {
            if (kind == SING) {
                return high >= level;
            }
            return kind == WHISTLE && high > level;
        }

        private boolean isCut(Land land, int hut) {
            return snow[hut] >= land.deep;
        }

        private int high(Land land, int singer) {
            int hut = huts[singer];
            int ground = land.heights[hut] - land.talls[singer];
            return has(climbed, singer) ? ground + land.ladders[hut] : ground;
        }

        private int singersIn(Land land, int hutBits) {
            int bits = 0;
            for (int s = 0; s < land.singers; s++) {
                if (has(hutBits, huts[s])) {
                    bits |= 1 << s;
                }
            }
            return bits;
        }

        private int knowers(Land land, int song) {
            int bits = 0;
            for (int s = 0; s < land.singers; s++) {
                if (has(known[s], song)) {
                    bits |= 1 << s;
                }
            }
            return bits;
        }

        int look(Land land, int what) {
            if (what < 0 || what > 79) {
                return STATELESS;
            }
            int k = what % 10;
            switch (what / 10) {
                case 0:
                    return lookWhole(land, k);
                case 1:
                    return k < SONGS ? levels[k] : STATELESS;
                case 2:
                    return k < SONGS ? Integer.bitCount(knowers(land, k)) : STATELESS;
                case 7:
                    return land.hasHut(k) ? snow[k] : STATELESS;
                default:
                    return land.hasSinger(k) ? lookSinger(land, what / 10, k) : STATELESS;
            }
        }

        private int lookWhole(Land land, int what) {
            switch (what) {
                case 0:
                    return minute;
                case 1:
                    return avalanches;
                case 2:
                    return seers(land);
                case 3:
                    return begun;
                case 4:
                    return doneFor(land);
                default:
                    return STATELESS;
            }
        }

        private int lookSinger(Land land, int tens, int singer) {
            switch (tens) {
                case 3:
                    return huts[singer];
                case 4:
                    return known[singer];
                case 5:
                    return has(climbed, singer) ? 1 : 0;
                default:
                    return high(land, singer);
            }
        }

        private int seers(Land land) {
            int bits = 0;
            for (int s = 0; s < land.singers; s++) {
                if ((begun & ~known[s]) == 0) {
                    bits |= 1 << s;
                }
            }
            return bits;
        }

        private int doneFor(Land land) {
            openWays(land);
            int bits = begun;
            for (int s = 0; s < land.singers; s++) {
                int low = lowest(land, s);
                for (int song = 0; song < SONGS; song++) {
                    if (has(known[s], song) && low < levels[song]) {
                        bits &= ~(1 << song);
                    }
                }
            }
            return bits;
        }

        /** From each HUT those to which a WAY goes that can be walked now. */
        private void openWays(Land land) {
            for (int a = 0; a < land.huts; a++) {
                open[a] = 0;
                for (int b = 0; b < land.huts; b++) {
                    if (land.minutes[a * MOST_HUTS + b] > 0 && !isCut(land, a) && !isCut(land, b)) {
                        open[a] |= 1 << b;
                    }
                }
            }
        }

        /** How HIGH he is in the lowest HUT to which he can come and sing there, FAR if in none. */
        private int lowest(Land land, int singer) {
            int reached = Slope.reach(huts[singer], open, 0);
            int low = FAR;
            for (int h = 0; h < land.huts; h++) {
                if (has(reached, h) && !land.isDam(h)) {
                    low = Math.min(low, land.heights[h] - land.talls[singer]);
                }
            }
            return low;
        }

        /** TEACH. */
        int fewestTimes(Land land, int song) {
            int least = NONE;
            for (int set = 0; set < 1 << land.singers; set++) {
                int times = Integer.bitCount(set);
                if ((least == NONE || times < least) && spreads(land, song, set)) {
                    least = times;
                }
            }
            return least;
        }

        /** Whether all KNOW the SONG if just these sing it, which can only be from the highest down. */
        private boolean spreads(Land land, int song, int set) {
            int knowing = knowers(land, song);
            int level = has(begun, song) ? levels[song] : FAR;
            int left = set;
            for (int turn = 0; turn < MOST_SINGERS && left != 0; turn++) {
                int singer = highestOf(land, left);
                int high = high(land, singer);
                if (!has(knowing, singer) || high >= level || land.isDam(huts[singer])) {
                    return false;
                }
                level = high;
                knowing |= singersIn(land, land.earshot(huts[singer]));
                left &= ~(1 << singer);
            }
            return Integer.bitCount(knowing) == land.singers;
        }

        private int highestOf(Land land, int set) {
            int best = 0;
            int height = -FAR;
            for (int s = 0; s < land.singers; s++) {
                if (has(set, s) && high(land, s) > height) {
                    best = s;
                    height = high(land, s);
                }
            }
            return best;
        }
    }

    /** How SONGS and SINGERS go through a LAND as told. */
    static final class Slope {
        /** COMES from HUT a to HUT b at 9 * a + b, FAR: never. */
        final int[] heard = new int[PAIRS];
        /** WALK likewise. */
        final int[] walked = new int[PAIRS];
        final int[] total = new int[MOST_HUTS];
        final int[] longest = new int[MOST_HUTS];
        private final int[] next = new int[MOST_HUTS];
        private final int[] cover = new int[MOST_HUTS];
        private final int[] now = new int[MOST_HUTS];
        private final int[] then = new int[MOST_HUTS];

        void hear(Land land) {
            Arrays.fill(heard, FAR);
            for (int a = 0; a < land.huts; a++) {
                for (int b = 0; b < land.huts; b++) {
                    if (land.leads(a, b)) {
                        heard[a * MOST_HUTS + b] = land.minutes[a * MOST_HUTS + b];
                    }
                }
                if (!land.isDam(a)) {
                    markAtOnce(a, land.earshot(a));
                }
            }
            shorten(heard, land.huts);
        }

        private void markAtOnce(int from, int bits) {
            for (int h = 0; h < MOST_HUTS; h++) {
                if (has(bits, h)) {
                    heard[from * MOST_HUTS + h] = 0;
                }
            }
        }

        void walk(Land land) {
            Arrays.fill(walked, FAR);
            for (int a = 0; a < land.huts; a++) {
                for (int b = 0; b < land.huts; b++) {
                    int way = land.minutes[a * MOST_HUTS + b];
                    if (way > 0) {
                        walked[a * MOST_HUTS + b] = way;
                    }
                }
                walked[a * MOST_HUTS + a] = 0;
            }
            shorten(walked, land.huts);
        }

        private static void shorten(int[] times, int huts) {
            for (int by = 0; by < huts; by++) {
                for (int a = 0; a < huts; a++) {
                    int to = times[a * MOST_HUTS + by];
                    for (int b = 0; b < huts && to < FAR; b++) {
                        int through = to + times[by * MOST_HUTS + b];
                        if (through < times[a * MOST_HUTS + b]) {
                            times[a * MOST_HUTS + b] = through;
                        }
                    }
                }
            }
        }

        /** To which HUTS a SONG goes on from each. */
        void link(Land land) {
            for (int a = 0; a < land.huts; a++) {
                next[a] = land.isDam(a) ? 0 : land.earshot(a);
                for (int b = 0; b < land.huts; b++) {
                    if (land.leads(a, b)) {
                        next[a] |= 1 << b;
                    }
                }
            }
        }

        /** All HUTS (bits) that are come to from one, it too, none of those barred. */
        static int reach(int from, int[] links, int barred) {
            int seen = 1 << from;
            for (int round = 0; round < MOST_HUTS; round++) {
                int more = seen;
                for (int h = 0; h < MOST_HUTS; h++) {
                    if (has(seen, h)) {
                        more |= links[h] & ~barred;
                    }
                }
                if (more == seen) {
                    return seen;
                }
                seen = more;
            }
            return seen;
        }

        /** When a SONG begun at a HUT is at the last VILLAGE that is no DAM. */
        int lastVillage(Land land, int from) {
            int last = 0;
            for (int h = 0; h < land.huts; h++) {
                if (has(land.villages, h) && !land.isDam(h)) {
                    last = Math.max(last, heard[from * MOST_HUTS + h]);
                }
            }
            return last;
        }

        int allBy(Land land, int minute) {
            int bits = 0;
            for (int h = 0; h < land.huts; h++) {
                if (!land.isDam(h) && lastVillage(land, h) <= minute) {
                    bits |= 1 << h;
                }
            }
            return bits;
        }

        int bestHut(Land land) {
            int best = NONE;
            int least = FAR;
            for (int h = 0; h < land.huts; h++) {
                if (!land.isDam(h) && lastVillage(land, h) < least) {
                    best = h;
                    least = lastVillage(land, h);
                }
            }
            return best;
        }

        int crewBy(Land land, int minute) {
            coverBy(heard, land.huts, minute);
            return fewestCovering(land.villages, land.huts);
        }

        int massesWithin(Land land, int minutes) {
            walk(land);
            coverBy(walked, land.huts, minutes);
            return fewestCovering(land.villages, land.huts);
        }

        private void coverBy(int[] times, int huts, int minute) {
            for (int a = 0; a < huts; a++) {
                cover[a] = 0;
                for (int b = 0; b < huts; b++) {
                    if (times[a * MOST_HUTS + b] <= minute) {
                        cover[a] |= 1 << b;
                    }
                }
            }
        }

        private int fewestCovering(int needed, int huts) {
            int best = NONE;
            int size = huts + 1;
            for (int set = 0; set < 1 << huts; set++) {
                if (Integer.bitCount(set) < size && (needed & ~covered(set, huts)) == 0) {
                    best = set;
                    size = Integer.bitCount(set);
                }
            }
            return best;
        }

        private int covered(int set, int huts) {
            int bits = 0;
            for (int h = 0; h < huts; h++) {
                if (has(set, h)) {
                    bits |= cover[h];
                }
            }
            return bits;
        }

        /** ROUTES from a HUT to each, and the most WAYS in one, by how many WAYS they have. */
        void trace(Land land, int from) {
            Arrays.fill(total, 0);
            Arrays.fill(longest, 0);
            Arrays.fill(now, 0);
            now[from] = 1;
            for (int ways = 1; ways < land.huts; ways++) {
                for (int b = 0; b < land.huts; b++) {
                    then[b] = routesOn(land, b);
                    if (then[b] > 0) {
                        total[b] += then[b];
                        longest[b] = ways;
                    }
                }
                System.arraycopy(then, 0, now, 0, MOST_HUTS);
            }
        }

        private int routesOn(Land land, int to) {
            int sum = 0;
            for (int a = 0; a < land.huts; a++) {
                if (land.leads(a, to)) {
                    sum += now[a];
                }
            }
            return sum;
        }

        /** STEEP, FAR without ROUTES. */
        int steepest(Land land, int from, int to) {
            Arrays.fill(now, FAR);
            now[from] = 0;
            for (int ways = 1; ways < land.huts; ways++) {
                for (int b = 0; b < land.huts; b++) {
                    now[b] = Math.min(now[b], leastFall(land, b));
                }
            }
            return now[to];
        }

        private int leastFall(Land land, int to) {
            int least = FAR;
            for (int a = 0; a < land.huts; a++) {
                if (land.leads(a, to)) {
                    least = Math.min(least, Math.max(now[a], land.heights[a] - land.heights[to]));
                }
            }
            return least;
        }

        int depth(Land land) {
            int most = 0;
            for (int a = 0; a < land.huts; a++) {
                trace(land, a);
                for (int b = 0; b < land.huts; b++) {
                    most = Math.max(most, longest[b]);
                }
            }
            return most;
        }

        int muted(int from, int hut) {
            int before = reach(from, next, 0);
            int after = reach(from, next, 1 << hut);
            return Integer.bitCount(before & ~after & ~(1 << hut));
        }

        int worst(Land land, int from) {
            int best = NONE;
            int most = -1;
            for (int h = 0; h < land.huts; h++) {
                if (h != from && !land.isDam(h) && muted(from, h) > most) {
                    best = h;
                    most = muted(from, h);
                }
            }
            return best;
        }

        int fitting(Land land, Sight sight) {
            int bits = 0;
            for (int h = 0; h < land.huts; h++) {
                if (!land.isDam(h) && agrees(sight, h)) {
                    bits |= 1 << h;
                }
            }
            return bits;
        }

        private boolean agrees(Sight sight, int from) {
            for (int k = 0; k < sight.facts; k++) {
                boolean cameBy = heard[from * MOST_HUTS + sight.huts[k]] <= sight.minutes[k];
                if (cameBy != (sight.heard[k] == 1)) {
                    return false;
                }
            }
            return true;
        }

        /** ASK, NONE if nothing FITS. */
        int question(Land land, int fitting) {
            if (fitting == 0) {
                return NONE;
            }
            int best = NONE;
            int least = FAR;
            for (int minute = 0; minute <= LAST_ASKED; minute++) {
                for (int h = 0; h < land.huts; h++) {
                    int part = greaterPart(land, fitting, h, minute);
                    if (part < least) {
                        best = 10 * minute + h;
                        least = part;
                    }
                }
            }
            return best;
        }

        private int greaterPart(Land land, int fitting, int hut, int minute) {
            int come = Integer.bitCount(fitting & fromBy(land, hut, minute));
            return Math.max(come, Integer.bitCount(fitting) - come);
        }

        /** HUTS (bits) from which a SONG comes to a HUT by a minute. */
        int fromBy(Land land, int hut, int minute) {
            int bits = 0;
            for (int h = 0; h < land.huts; h++) {
                if (heard[h * MOST_HUTS + hut] <= minute) {
                    bits |= 1 << h;
                }
            }
            return bits;
        }

        int soonest(Land land, int hut) {
            int least = FAR;
            for (int h = 0; h < land.huts; h++) {
                least = Math.min(least, heard[h * MOST_HUTS + hut]);
            }
            return least;
        }

        /** The HUT, or the minute, at which the later one from a and from b is soonest. */
        int together(Land land, int[] times, int a, int b, boolean minute) {
            int best = NONE;
            int least = FAR;
            for (int h = 0; h < land.huts; h++) {
                int later = Math.max(times[a * MOST_HUTS + h], times[b * MOST_HUTS + h]);
                if (later < least) {
                    best = h;
                    least = later;
                }
            }
            return best != NONE && minute ? least : best;
        }

        /** CARRY from a HUT: the HUT, or the minute. */
        int carried(Land land, int from, boolean minute) {
            int best = NONE;
            int least = FAR;
            for (int h = 0; h < land.huts; h++) {
                int last = walked[from * MOST_HUTS + h] + lastVillage(land, h);
                if (!land.isDam(h) && last < least) {
                    best = h;
                    least = last;
                }
            }
            return best != NONE && minute ? least : best;
        }

        int tops(Land land) {
            int bits = 0;
            for (int h = 0; h < land.huts; h++) {
                if (fromBy(land, h, FAR - 1) == 1 << h) {
                    bits |= 1 << h;
                }
            }
            return bits;
        }

        int ends(Land land) {
            int bits = 0;
            for (int h = 0; h < land.huts; h++) {
                if (!land.isDam(h) && heardElsewhere(land, h) == 0) {
                    bits |= 1 << h;
                }
            }
            return bits;
        }

        int couples(Land land) {
            int sum = 0;
            for (int h = 0; h < land.huts; h++) {
                sum += heardElsewhere(land, h);
            }
            return sum;
        }

        private int heardElsewhere(Land land, int from) {
            int sum = 0;
            for (int h = 0; h < land.huts; h++) {
                if (h != from && heard[from * MOST_HUTS + h] < FAR) {
                    sum++;
                }
            }
            return sum;
        }

        /** FLOOD (bits), NONE if by none. */
        int fewestDams(Land land, int from, int to) {
            int kept = land.dams | 1 << from | 1 << to;
            int best = NONE;
            int size = land.huts + 1;
            for (int set = 0; set < 1 << land.huts; set++) {
                if ((set & kept) == 0 && Integer.bitCount(set) < size && !has(reach(from, next, set), to)) {
                    best = set;
                    size = Integer.bitCount(set);
                }
            }
            return best;
        }
    }

    /** Orders of a CHOIR, told by which VOICES stand already and which is the last of them. */
    static final class Rows {
        private static final int STANDS = 4608;

        private int[] stands;
        /** The STEP by which VOICE b may stand behind VOICE a, at 9 * a + b, FAR if by none. */
        private final int[] gaps = new int[PAIRS];
        /** VOICES (bits) that may stand behind each. */
        private final int[] behind = new int[MOST_VOICES];

        /** In how many ways the others can stand behind. */
        void fill(Choir choir) {
            measure(choir);
            int[] ways = table();
            int all = (1 << choir.voices) - 1;
            for (int set = all; set > 0; set--) {
                for (int last = 0; last < choir.voices; last++) {
                    if (has(set, last)) {
                        ways[set * MOST_VOICES + last] = set == all ? 1 : waysOn(ways, set, behind[last] & ~set);
                    }
                }
            }
        }

        private void measure(Choir choir) {
            for (int a = 0; a < choir.voices; a++) {
                behind[a] = 0;
                for (int b = 0; b < choir.voices; b++) {
                    int gap = choir.stepBetween(a, b);
                    gaps[a * MOST_VOICES + b] = gap;
                    if (gap <= choir.step) {
                        behind[a] |= 1 << b;
                    }
                }
            }
        }

        private static int waysOn(int[] ways, int set, int free) {
            int sum = 0;
            for (int v = 0; v < MOST_VOICES && free >> v != 0; v++) {
                if (has(free, v)) {
                    sum += ways[(set | 1 << v) * MOST_VOICES + v];
                }
            }
            return sum;
        }

        /** ORDERS, behind fill(); without VOICES there is one, the empty row. */
        int total(Choir choir) {
            if (choir.voices == 0) {
                return 1;
            }
            int[] ways = table();
            int sum = 0;
            for (int v = 0; v < choir.voices; v++) {
                sum += ways[(1 << v) * MOST_VOICES + v];
            }
            return sum;
        }

        /** VOICE k of the first order, behind fill(), if there is one. */
        int voiceAt(Choir choir, int k) {
            int set = 0;
            int free = (1 << choir.voices) - 1;
            int last = NONE;
            for (int place = 0; place <= k; place++) {
                last = firstOf(set, free);
                if (last == NONE) {
                    return NONE;
                }
                set |= 1 << last;
                free = behind[last] & ~set;
            }
            return last;
        }

        private int firstOf(int set, int free) {
            int[] ways = table();
            for (int v = 0; v < MOST_VOICES; v++) {
                if (has(free, v) && ways[(set | 1 << v) * MOST_VOICES + v] > 0) {
                    return v;
                }
            }
            return NONE;
        }

        int leastStep(Choir choir) {
            if (choir.voices == 0) {
                return 0;
            }
            measure(choir);
            int[] steps = table();
            int all = (1 << choir.voices) - 1;
            for (int set = all; set > 0; set--) {
                for (int last = 0; last < choir.voices; last++) {
                    if (has(set, last)) {
                        steps[set * MOST_VOICES + last] = set == all ? 0 : stepOn(steps, set, all & ~set, last);
                    }
                }
            }
            int least = FAR;
            for (int v = 0; v < choir.voices; v++) {
                least = Math.min(least, steps[(1 << v) * MOST_VOICES + v]);
            }
            return nearOrNone(least);
        }

        private int stepOn(int[] steps, int set, int free, int last) {
            int least = FAR;
            for (int v = 0; v < MOST_VOICES && free >> v != 0; v++) {
                int gap = gaps[last * MOST_VOICES + v];
                if (has(free, v) && gap < least) {
                    least = Math.min(least, Math.max(gap, steps[(set | 1 << v) * MOST_VOICES + v]));
                }
            }
            return least;
        }

        /** Made when it is first asked for: most objects never need so many elements. */
        private int[] table() {
            if (stands == null) {
                stands = new int[STANDS];
            }
            return stands;
        }
    }

    /** The first takes of a TRADE, by steps: with one verse less, and with all verses. */
    static final class Table {
        private final int[] less = new int[MOST_TAKEN + 1];
        private final int[] full = new int[MOST_TAKEN + 1];

        void lay(int verses, int steps, int most) {
            for (int v = 0; v <= verses; v++) {
                System.arraycopy(full, 0, less, 0, steps + 1);
                for (int s = 0; s <= steps; s++) {
                    full[s] = firstTake(v, s, most);
                }
            }
        }

        int firstTake(int verses, int steps, int most) {
            if (steps >= 2 && full[steps - 2] == NONE) {
                return 2;
            }
            for (int s = 1; verses > 0 && s <= most && s <= steps; s++) {
                if (less[steps - s] == NONE) {
                    return 10 + s;
                }
            }
            return NONE;
        }
    }
}
