import java.io.DataInputStream;
import java.io.IOException;
import java.io.InputStream;
import java.lang.management.ManagementFactory;
import java.lang.reflect.Constructor;
import java.lang.reflect.Field;
import java.lang.reflect.InvocationTargetException;
import java.lang.reflect.Method;
import java.lang.reflect.Modifier;
import java.nio.file.Files;
import java.nio.file.Path;
import java.util.ArrayList;
import java.util.Arrays;
import java.util.Comparator;
import java.util.List;
import java.util.Random;
import java.util.Set;
import java.util.TreeSet;
import java.util.regex.Matcher;
import java.util.regex.Pattern;

/** What LANGUAGE.md asks of the class, as far as it can be seen from its source, its members and its bytecode. */
public final class LanguageTest {
    private static final Set<String> FACE = new TreeSet<>(Arrays.asList(
        "int state(int)", "int dealer(int,int,int,boolean)", "int lot(int,int)", "boolean set(int,int,int)",
        "int sell(int)", "boolean act(int,int)", "int house()", "int feed(int,int,int,int,int)", "boolean end(int)",
        "int text(int)", "int fault(int)", "int of(int,int)", "int lotOf(int,int)", "int winces(int,int,int)",
        "int word(int)", "int book(int,int)", "int would(int,int)", "int worst(int,int,int)", "int clears(int)",
        "int sat(int)", "int seen(int,int)", "int ranks(int)", "int buys(int,int)", "int claim(int)",
        "int shares(int,int)", "int likely(int,int,int)", "int quiet(int)", "boolean puts(int,int)", "int outs(int)",
        "int tells(int)", "int bring(int,int)", "int brings(int)", "int breath(int)", "int breaths(int)",
        "int game(int)", "int rich(int)", "boolean undo()", "boolean image(boolean)", "int look(int)"));

    private static final Set<String> LIBRARY = new TreeSet<>(Arrays.asList(
        "java/lang/Object.<init>", "java/lang/String.length", "java/lang/String.charAt", "java/lang/String.indexOf",
        "java/lang/Integer.bitCount", "java/lang/Integer.numberOfTrailingZeros",
        "java/lang/Integer.numberOfLeadingZeros", "java/lang/Long.bitCount", "java/lang/Math.min",
        "java/lang/Math.max", "java/lang/System.arraycopy"));

    private static int wrong = 0;

    private static void check(boolean right, String rule) {
        if (!right) {
            wrong++;
            System.out.println("not kept: " + rule);
        }
    }

    private static void members() {
        Class<?> c = LastToWince.class;
        check(Modifier.isFinal(c.getModifiers()) && Modifier.isPublic(c.getModifiers()), "1: public and final");
        Set<String> open = new TreeSet<>();
        Set<String> names = new TreeSet<>();
        for (Method m : c.getDeclaredMethods()) {
            if (Modifier.isPrivate(m.getModifiers())) continue;
            List<String> types = new ArrayList<>();
            for (Class<?> t : m.getParameterTypes()) types.add(t.getSimpleName());
            open.add(m.getReturnType().getSimpleName() + " " + m.getName() + "(" + String.join(",", types) + ")");
            names.add(m.getName());
            check(Modifier.isPublic(m.getModifiers()), "1: " + m + " is public");
        }
        check(open.equals(FACE), "1: the face: " + open);
        Constructor<?>[] made = c.getDeclaredConstructors();
        check(made.length == 1 && made[0].getParameterCount() == 0, "1: one constructor");
        for (Field f : c.getDeclaredFields()) {
            check(f.getName().equals("NONE") || Modifier.isPrivate(f.getModifiers()), "1: " + f + " is private");
        }
        List<Class<?>> all = new ArrayList<>(Arrays.asList(c.getDeclaredClasses()));
        all.add(c);
        check(all.size() <= 12, "11: some twelve classes: " + all.size());
        for (Class<?> k : all) {
            check(k == c || Modifier.isStatic(k.getModifiers()), "2: " + k + " is static");
            oneClass(k, names);
        }
    }

    private static void oneClass(Class<?> k, Set<String> names) {
        int fields = 0;
        for (Field f : k.getDeclaredFields()) {
            boolean fixed = Modifier.isStatic(f.getModifiers());
            check(!fixed || Modifier.isFinal(f.getModifiers()), "5: " + f + " is final");
            fields += fixed ? 0 : 1;
        }
        check(fields <= 20, "11: " + k + " has some twenty fields");
        for (Method m : k.getDeclaredMethods()) {
            check(m.getParameterCount() <= 7, "11: " + m + " takes at most seven");
            boolean face = k == LastToWince.class && Modifier.isPublic(m.getModifiers());
            check(face || !names.contains(m.getName()), "1: " + m + " bears a name of the face");
            check(!m.isSynthetic(), "2: " + m + " is no lambda");
        }
    }

    private static void source(String text) {
        String code = text.replaceAll("(?s)/\\*.*?\\*/", "").replaceAll("//[^\\n]*", "")
            .replaceAll("\"[^\"\\n]*\"", "\"\"");
        for (String word : new String[] {"throw", "throws", "try", "catch", "synchronized", "assert", "finally",
            "import", "package", "volatile", "transient", "native", "instanceof", "Object", "System\\.out", "var"}) {
            check(!Pattern.compile("\\b" + word + "\\b").matcher(code).find(), "6: no " + word);
        }
        check(!code.contains("->") && !code.contains("::"), "2: no lambda, no method reference");
        check(!Pattern.compile("while \\(true\\)|for \\(;;\\)").matcher(code).find(), "9: loops end");
        check(text.chars().allMatch(ch -> ch == 10 || ch >= 32 && ch < 127), "4: plain signs");
        String[] lines = text.split("\n");
        int start = -1;
        String end = "";
        for (int i = 0; i < lines.length; i++) {
            Matcher m = Pattern.compile("^( +)(?:[a-z]+ )*[A-Za-z\\[\\]]+ ?[A-Za-z]*\\(.*\\) \\{$").matcher(lines[i]);
            if (start < 0 && m.find() && !lines[i].trim().matches("(if|for|while|switch|\\}).*")) {
                start = i;
                end = m.group(1) + "}";
            } else if (start >= 0 && lines[i].equals(end)) {
                check(i - start < 60, "11: the method at line " + (start + 1) + " is short");
                start = -1;
            }
        }
    }

    /** The methods that the constant pools name outside the class itself. */
    private static void library() throws IOException {
        List<Class<?>> all = new ArrayList<>(Arrays.asList(LastToWince.class.getDeclaredClasses()));
        all.add(LastToWince.class);
        for (Class<?> k : all) {
            String name = k.getName();
            try (InputStream in = LastToWince.class.getResourceAsStream(name + ".class")) {
                for (String used : calledBy(new DataInputStream(in))) {
                    check(used.startsWith("LastToWince") || LIBRARY.contains(used), "4: " + name + " calls " + used);
                }
            }
        }
    }

    private static Set<String> calledBy(DataInputStream in) throws IOException {
        in.readInt();
        in.readInt();
        int n = in.readUnsignedShort();
        String[] text = new String[n];
        int[][] refs = new int[n][];
        int[] tags = new int[n];
        for (int i = 1; i < n; i++) {
            int tag = in.readUnsignedByte();
            tags[i] = tag;
            switch (tag) {
                case 1: text[i] = in.readUTF(); break;
                case 3: case 4: in.readInt(); break;
                case 5: case 6: in.readLong(); i++; break;
                case 7: case 8: case 16: case 19: case 20: refs[i] = new int[] {in.readUnsignedShort()}; break;
                case 15: in.readUnsignedByte(); in.readUnsignedShort(); break;
                default: refs[i] = new int[] {in.readUnsignedShort(), in.readUnsignedShort()};
            }
        }
        Set<String> used = new TreeSet<>();
        for (int i = 1; i < n; i++) {
            if (tags[i] == 10 || tags[i] == 11) {
                used.add(text[refs[refs[i][0]][0]] + "." + text[refs[refs[i][1]][0]]);
            }
            check(tags[i] != 18, "2: no call that is made at run time");
        }
        return used;
    }

    /** All calls once, in rooms as full as can be; answers are summed up so that none is left out. */
    private static int everything(LastToWince x, int i) {
        int sum = x.feed(0x77696E63, 0x65203530, 0x303B0A20, 0x20202020, 0x20202020) + x.text(0);
        sum += x.dealer(i % 100, 1, 500, true) + x.lot(i % 6, i % 1000) + x.sell(i % 12) + x.house() + x.look(i % 14);
        sum += x.would(i % 12, 0) + x.worst(0, 0, 0) + x.clears(0) + x.sat(0) + x.seen(i % 10, 0) + x.ranks(0);
        sum += x.buys(500, 0) + x.claim(i % 99) + x.shares(500, 0) + x.likely(500, 3, 9) + x.quiet(7);
        sum += x.outs(0) + x.tells(-1) + x.bring(i % 9, 3) + x.brings(0) + x.breath(i % 99) + x.breaths(0);
        sum += x.game(0) + x.rich(2) + x.state(i) + x.fault(0) + x.of(0, 7) + x.lotOf(0, 1) + x.winces(0, 0, 0);
        sum += x.word(i % 200) + x.book(i % 9, 0);
        boolean is = x.set(2, i % 10, 500) ^ x.act(i % 4, i % 10) ^ x.end(0) ^ x.puts(i % 8, i % 1024) ^ x.undo();
        return sum + (is ^ x.image(i % 5 != 0) ? 1 : 0);
    }

    /** Any arguments in any state: a call that throws is told with its numbers. */
    private static void wild() throws IllegalAccessException {
        Random random = new Random(512);
        Method[] methods = LastToWince.class.getMethods();
        Arrays.sort(methods, Comparator.comparing(Method::getName));
        int[] edges = {-2, -1, 0, 1, 2, 3, 7, 8, 9, 10, 11, 12, 17, 99, 100, 255, 399, 400, 999, 1000, 1023, 9999,
            Integer.MIN_VALUE, Integer.MAX_VALUE, 0x3B3B3B3B, 0x28282828, 0x31313131, 0x6E6F7420};
        for (int run = 0; run < 400; run++) {
            LastToWince x = new LastToWince();
            for (int call = 0; call < 512; call++) {
                Method m = methods[random.nextInt(methods.length)];
                if (m.getDeclaringClass() != LastToWince.class) continue;
                Object[] with = new Object[m.getParameterCount()];
                for (int i = 0; i < with.length; i++) {
                    boolean flag = m.getParameterTypes()[i] == boolean.class;
                    int v = random.nextInt(30) == 0 ? random.nextInt() : random.nextBoolean()
                        ? edges[random.nextInt(edges.length)] : random.nextInt(10);
                    with[i] = flag ? (Object) random.nextBoolean() : (Object) v;
                }
                try {
                    m.invoke(x, with);
                } catch (InvocationTargetException e) {
                    check(false, "7: " + m.getName() + Arrays.toString(with) + " threw " + e.getCause());
                }
            }
        }
    }

    private static void room() {
        var threads = (com.sun.management.ThreadMXBean) ManagementFactory.getThreadMXBean();
        long id = Thread.currentThread().getId();
        LastToWince x = new LastToWince();
        int sum = 0;
        for (int i = 0; i < 400; i++) sum += everything(x, i);
        long before = threads.getThreadAllocatedBytes(id);
        for (int i = 0; i < 400; i++) sum += everything(x, i);
        long calls = threads.getThreadAllocatedBytes(id) - before;
        check(calls < 20000, "12: calls make nothing new, but made " + calls + " bytes (" + sum + ")");
        before = threads.getThreadAllocatedBytes(id);
        x = new LastToWince();
        long made = threads.getThreadAllocatedBytes(id) - before;
        check(made < 100000, "12: an object is small, but has " + made + " bytes " + x.look(0));
        System.out.println("an object is made of " + made + " bytes; 400 rounds of calls made " + calls);
    }

    public static void main(String[] args) throws IOException, IllegalAccessException {
        String path = System.getProperty("source", "src/main/java/LastToWince.java");
        members();
        source(Files.readString(Path.of(path)));
        library();
        wild();
        room();
        System.out.println(wrong == 0 ? "the language is kept" : wrong + " rules are not kept");
        if (wrong != 0) System.exit(1);
    }
}
