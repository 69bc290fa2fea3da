import java.lang.management.ManagementFactory;
import java.lang.reflect.Constructor;
import java.lang.reflect.Field;
import java.lang.reflect.Method;
import java.lang.reflect.Modifier;
import java.util.Arrays;
import java.util.Comparator;
import java.util.Random;
import java.util.TreeSet;

/** The face; no call throws, whatever its arguments; the same calls answer the same; calls make next to nothing. */
public final class AnyArgumentsTest {
    private static final int[] EDGES = {Integer.MIN_VALUE, Integer.MIN_VALUE + 1, -1000, -2, -1, 0, 1, 2, 3, 4, 5, 6, 7, 8, 9, 10,
        19, 20, 29, 30, 31, 32, 39, 40, 60, 61, 79, 80, 99, 100, 140, 141, 600, Integer.MAX_VALUE - 1, Integer.MAX_VALUE};
    /** As full as may be: 9 HUTS, 6 SINGERS, 4 ECHOES. */
    private static final String FULL = "hut 90;hut 80;hut 70;hut 60;hut 50;hut 40;hut 30;hut 20;hut 9;way 0 1 9;way 1 2 9;way 2 3 9;"
        + "way 3 4 9;way 4 5 9;way 5 6 9;way 6 7 9;way 7 8 9;way 0 8 1;way 2 8 3;way 1 5 2;village 8;village 3;village 0;dam 6;"
        + "echo 8 0;echo 7 8;echo 1 8;echo 4 6;ladder 8 9;ladder 0 3;deep 9;singer 8 9;singer 0 0;singer 7 1;singer 4 2;"
        + "singer 1 9;singer 8 0;knows 0 4;knows 5 0;knows 5 4;knows 1 1;knows 3 2;";
    private static final String LONG = "begin 5 4;climb 5;" + "sing 5 4;".repeat(36) + "whistle 0 4;walk 0 7;";
    private static final String[] TEXTS = {
        EveningTest.LAND, FULL, LONG, "begin 5 4;walk 5 0;", "heard 8 60;mute 0 0;", "mute 5 9;".repeat(10),
        "voice 3 9;", "voice 0 0;voice 1 0;".repeat(4) + "voice 2 9;", FULL, "hut 9;hut 5;hut 7;way 0 1 1;way 1 2 4;dam 1;village 1;village 2;singer 0 0;singer 1 0;knows 0 4;echo 2 0;",
        "begin 0 0;walk 0 1;sing 0 0;begin 1 1;walk 1 2;sing 1 1;whistle 0 0;climb 2;sing 3 0;", "begin 0 4;walk 0 1;sing 0 4;",
        "heard 3 5;mute 2 2;", "heard 8 60;", "voice 0 5;voice 1 6;voice 0 4;step 1;",
        "voice 0 0;voice 1 1;voice 2 2;voice 3 3;voice 0 4;voice 1 5;voice 2 6;voice 3 7;voice 0 8;step 9;"};

    public static void main(String[] args) throws ReflectiveOperationException {
        face();
        Method[] calls = calls();
        for (int round = 0; round < 1000; round++) {
            long first = run(calls, round);
            Check.due("the same calls once more, seed " + round, run(calls, round), first);
        }
        room(calls);
        Check.finish();
    }

    private static Method[] calls() {
        Method[] calls = DownhillSong.class.getDeclaredMethods();
        calls = Arrays.stream(calls).filter(m -> Modifier.isPublic(m.getModifiers())).toArray(Method[]::new);
        Arrays.sort(calls, Comparator.comparing(Method::getName));
        return calls;
    }

    /** The public face as the document has it, and nothing else that can be seen. */
    private static void face() {
        TreeSet<String> want = new TreeSet<>(Arrays.asList("int feed(int,int,int,int,int)", "int end(int)", "int text(int,int)",
            "int fault(int)", "int land(int,int)", "int echo(int,int,int)", "int deed(int,int,int)", "int stop(int,int)",
            "int state(int,int,int,int)", "int comes(int,int,int)", "int villages(int,int,int)", "int best(int,boolean)",
            "int routes(int,int,int,int)", "int mutes(int,int,int)", "int masses(int,int,boolean)", "int fact(int,int,int)",
            "int fits(int,int,boolean)", "int choir(int,int)", "long orders(int)", "int order(int,int)",
            "int trade(int,int,int,boolean)", "long odds(int,int,int)", "int drawn(int,int,int,int)", "int psalm(int,int,int,int)",
            "int meet(int,int,int,boolean)", "int carry(int,int,boolean)", "int join(int,int,int,boolean)", "int slopes(int,int)",
            "int flood(int,int,int,boolean)", "int teach(int,int,int,int)", "int count(int)", "boolean image(int)",
            "boolean again(int)"));
        TreeSet<String> got = new TreeSet<>();
        TreeSet<String> names = new TreeSet<>();
        for (Method m : calls()) {
            got.add(m.toString().replace("public ", "").replace("DownhillSong.", ""));
            names.add(m.getName());
        }
        Check.due("the face " + got, got.equals(want), true);
        for (Method m : DownhillSong.class.getDeclaredMethods()) {
            boolean open = Modifier.isPublic(m.getModifiers());
            Check.due("private " + m, open || Modifier.isPrivate(m.getModifiers()), true);
            Check.due("name of " + m, open || !names.contains(m.getName()), true);
        }
        for (Field f : DownhillSong.class.getDeclaredFields()) {
            Check.due("field " + f, Modifier.isPrivate(f.getModifiers()) || f.getName().equals("NONE"), true);
        }
        Constructor<?>[] made = DownhillSong.class.getDeclaredConstructors();
        Check.due("constructors", made.length, 1);
        Check.due("public constructor", Modifier.isPublic(made[0].getModifiers()), true);
        Check.due("final class", Modifier.isFinal(DownhillSong.class.getModifiers()), true);
    }

    private static long run(Method[] calls, int seed) throws ReflectiveOperationException {
        Random random = new Random(seed);
        DownhillSong x = new DownhillSong();
        long sum = 0;
        for (int n = 0; n < 400; n++) {
            if (random.nextInt(8) == 0) {
                int which = random.nextInt(TEXTS.length);
                sum = sum * 31 + Check.tell(x, which / 2 % 4, random.nextInt(3) - 1, TEXTS[which]);
            }
            Method call = calls[random.nextInt(calls.length)];
            sum = sum * 31 + answer(x, call, random);
        }
        return sum;
    }

    private static long answer(DownhillSong x, Method call, Random random) throws ReflectiveOperationException {
        Class<?>[] types = call.getParameterTypes();
        Object[] given = new Object[types.length];
        for (int i = 0; i < types.length; i++) {
            if (types[i] == boolean.class) {
                given[i] = random.nextBoolean();
            } else {
                int edge = random.nextInt(3) == 0 ? EDGES[random.nextInt(EDGES.length)] : random.nextInt(i == 0 ? 2 : random.nextBoolean() ? 10 : 50) - i % 2;
                given[i] = edge;
            }
        }
        Object got = call.invoke(x, given);
        return got instanceof Boolean b ? (b ? 1 : 0) : ((Number) got).longValue();
    }

    /** All objects are made with the object, by its images or at the first order of a choir. */
    private static void room(Method[] calls) {
        com.sun.management.ThreadMXBean threads = (com.sun.management.ThreadMXBean) ManagementFactory.getThreadMXBean();
        long[] spent = new long[3];
        for (int round = 0; round < 3; round++) {
            long before = threads.getCurrentThreadAllocatedBytes();
            busy();
            spent[round] = threads.getCurrentThreadAllocatedBytes() - before;
        }
        System.out.println("bytes made by an object and its calls: " + spent[2]);
        Check.due("bytes made by an object and its calls, below 80,000", spent[2] < 80_000, true);
    }

    private static void busy() {
        DownhillSong x = new DownhillSong();
        for (int n = 0; n < 40; n++) {
            x.feed(0x68757420, 0x393b6875, 0x7420353b, 0x77617920, 0x30203120);
            x.feed(0x333b7369, 0x6e676572, 0x20302030, 0x3b202020, 0x20202020);
            x.end(37);
            x.text(0, n == 0 ? -1 : 0);
            x.end(0);
            x.text(1, n == 0 ? -1 : 0);
            x.text(2, n == 0 ? -1 : 0);
            x.text(3, n == 0 ? -1 : 0);
            x.state(0, 0, 0, 4);
            x.villages(0, 5, 1);
            x.routes(0, 0, 1, 2);
            x.mutes(0, 0, -1);
            x.masses(0, 5, true);
            x.fits(0, 0, true);
            x.orders(0);
            x.choir(0, 2);
            x.trade(60, 60, 9, true);
            x.drawn(0, n, 60, 4);
            x.carry(0, 0, true);
            x.flood(0, 0, 1, true);
            x.teach(0, 0, 0, 0);
            x.image(n % 3);
            x.again(n % 3);
        }
    }
}
