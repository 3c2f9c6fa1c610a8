import java.lang.reflect.Constructor;
import java.lang.reflect.Field;
import java.lang.reflect.Method;
import java.lang.reflect.Modifier;
import java.nio.file.Files;
import java.nio.file.Path;
import java.util.Arrays;
import java.util.List;
import java.util.TreeSet;

/** The public face, no member more or less, and those rules of LANGUAGE.md that a scan can see. */
public final class FaceTest {
    private static final Check CHECK = new Check();

    private static final String[] FACE = {
        "int feed(int,int,int,int,int)", "int ring(int)", "int fault()", "int where()", "int copies(int)",
        "int error(int,int)", "int cell(int,int)", "int first(int,int)", "int after(int,int,int)",
        "int many(int,int,int)", "int unlike(int,int,int)", "int trueOnes(int,int)", "int when(int,int,int)",
        "int areas(int,int,int)", "int largest(int,int,int)", "long scale(int,int,boolean)",
        "int round(boolean)", "int origin(int,int,int)", "int blame(int,int,int)", "int loop(int)",
        "int depth(int)", "int strokes(int,int,int,int,int,int)", "int strokeAt(int,int,int,int,int,int,int)",
        "int ink(int,int,int)", "int judge()", "int fits()", "int fit(int,int)", "int surely(int)",
        "int rounds(int)", "boolean draw(int,int,int)", "boolean mend(int)", "boolean copy(int,int)",
        "boolean seed(int)", "boolean undo()", "int keep()", "boolean back(int)", "int led(int)",
        "int size(int)", "int trouble()"};

    public static void main(String[] args) throws Exception {
        face();
        nested();
        room();
        roomOfCalls();
        source();
        CHECK.end();
    }

    private static String sign(Method m) {
        StringBuilder text = new StringBuilder(m.getReturnType() + " " + m.getName() + "(");
        for (Class<?> c : m.getParameterTypes()) {
            text.append(text.charAt(text.length() - 1) == '(' ? "" : ",").append(c);
        }
        return text + ")";
    }

    private static TreeSet<String> names() {
        TreeSet<String> names = new TreeSet<>();
        for (String text : FACE) {
            names.add(text.substring(text.indexOf(' ') + 1, text.indexOf('(')));
        }
        return names;
    }

    private static void face() throws Exception {
        CHECK.part("face");
        TreeSet<String> want = new TreeSet<>(Arrays.asList(FACE));
        TreeSet<String> names = names();
        for (Method m : NineMaps.class.getDeclaredMethods()) {
            boolean shown = Modifier.isPublic(m.getModifiers());
            CHECK.due(m + " in the face", want.remove(sign(m)), shown);
            CHECK.due(m + " private or public", shown || Modifier.isPrivate(m.getModifiers()), true);
            CHECK.due(m + " private, of a public name", !shown && names.contains(m.getName()), false);
        }
        CHECK.due("lacking " + want, want.size(), 0);
        for (Field f : NineMaps.class.getDeclaredFields()) {
            boolean shown = f.getName().equals("NONE");
            CHECK.due(f.toString(), Modifier.isPublic(f.getModifiers()), shown);
            CHECK.due(f + " private", Modifier.isPrivate(f.getModifiers()), !shown);
            CHECK.due(f + " static only if final",
                !Modifier.isStatic(f.getModifiers()) || Modifier.isFinal(f.getModifiers()), true);
        }
        CHECK.due("NONE", NineMaps.NONE, -1);
        Constructor<?>[] made = NineMaps.class.getDeclaredConstructors();
        CHECK.due("constructors", made.length, 1);
        CHECK.due("its parameters", made[0].getParameterCount(), 0);
        CHECK.due("public constructor", Modifier.isPublic(made[0].getModifiers()), true);
        CHECK.due("final class", Modifier.isFinal(NineMaps.class.getModifiers()), true);
    }

    private static void nested() {
        CHECK.part("classes inside");
        Class<?>[] inside = NineMaps.class.getDeclaredClasses();
        CHECK.due("twelve classes at most", inside.length <= 12, true);
        for (Class<?> c : inside) {
            CHECK.due(c + " static", Modifier.isStatic(c.getModifiers()), true);
            CHECK.due(c + " hidden", (c.getModifiers() & (Modifier.PUBLIC | Modifier.PROTECTED)) == 0, true);
            int fields = 0;
            for (Field f : c.getDeclaredFields()) {
                fields += Modifier.isStatic(f.getModifiers()) ? 0 : 1;
            }
            CHECK.due(c + " twenty fields at most", fields <= 20, true);
            for (Method m : c.getDeclaredMethods()) {
                CHECK.due(m + " seven parameters at most", m.getParameterCount() <= 7, true);
                CHECK.due(m + " of a public name", names().contains(m.getName()), false);
            }
        }
    }

    private static int[] count(Object o, java.util.IdentityHashMap<Object, Object> met) throws Exception {
        int[] sum = {0, 0};
        if (o == null || met.put(o, o) != null) {
            return sum;
        }
        sum[0] = 1;
        if (o.getClass().isArray()) {
            int length = java.lang.reflect.Array.getLength(o);
            sum[1] = length;
            for (int i = 0; i < length && !o.getClass().getComponentType().isPrimitive(); i++) {
                add(sum, count(java.lang.reflect.Array.get(o, i), met));
            }
            return sum;
        }
        for (Field f : o.getClass().getDeclaredFields()) {
            if (!Modifier.isStatic(f.getModifiers())) {
                sum[1]++;
                f.setAccessible(true);
                if (!f.getType().isPrimitive()) {
                    add(sum, count(f.get(o), met));
                }
            }
        }
        return sum;
    }

    private static void add(int[] sum, int[] more) {
        sum[0] += more[0];
        sum[1] += more[1];
    }

    /** 512 new objects in one run still have room: 600,000 objects, 7.3 million fields and elements. */
    private static void room() throws Exception {
        CHECK.part("room");
        int[] sum = count(new NineMaps(), new java.util.IdentityHashMap<>());
        System.out.println("a new object: " + sum[0] + " objects, " + sum[1] + " fields and elements");
        CHECK.due("objects", 512 * sum[0] <= 600_000, true);
        CHECK.due("fields and elements", 512 * sum[1] <= 7_300_000, true);
    }

    /** Bytes made by 512 calls: a reader a ring, an exception a led, else nothing. */
    private static void roomOfCalls() {
        CHECK.part("room of calls");
        com.sun.management.ThreadMXBean bean =
            (com.sun.management.ThreadMXBean) java.lang.management.ManagementFactory.getThreadMXBean();
        NineMaps x = Check.told("ring wide 6 high 2 marks 3;town p abcabc,aaaaaa;town q aaaaaa,aaaaaa;"
            + "copies p q by stain b;copies q p by unknown;guess turn;guess erase c;seen q 20 1 1 a");
        long made = bean.getCurrentThreadAllocatedBytes();
        for (int i = 0; i < 512; i++) {
            askAll(x, i);
        }
        made = bean.getCurrentThreadAllocatedBytes() - made;
        CHECK.due("bytes of 512 calls of each sort: " + made, made < 512 * 100, true);
        made = bean.getCurrentThreadAllocatedBytes();
        for (int i = 0; i < 512; i++) {
            x.feed(i, i, i, i, i);
            x.ring(20);
        }
        made = bean.getCurrentThreadAllocatedBytes() - made;
        CHECK.due("bytes of 512 rings: " + made, made < 512 * 400, true);
    }

    private static void askAll(NineMaps x, int i) {
        x.copies(0);
        x.error(1, 0);
        x.after(0, 11, i % 61);
        x.many(0, 1, i % 61);
        x.unlike(0, 1, i % 61);
        x.trueOnes(0, i % 61);
        x.when(0, 0, 2);
        x.areas(0, 1, i % 61);
        x.largest(0, 1, i % 61);
        x.scale(0, i % 13, true);
        x.round(true);
        x.origin(0, 11, i % 61);
        x.blame(0, 11, i % 61);
        x.loop(0);
        x.depth(0);
        x.strokes(0, 2, 1, 11, 2, i % 13);
        x.strokeAt(0, 2, 1, 11, 2, i % 13, 0);
        x.ink(0, 11, 2);
        x.judge();
        x.fits();
        x.fit(0, 1);
        x.surely(1);
        x.rounds(1);
        x.draw(0, 0, i % 3);
        x.mend(i % 2);
        x.copy(0, i % 2);
        x.seed(i);
        x.keep();
        x.back(i % 3);
        x.undo();
        x.size(i % 13);
        x.trouble();
    }

    private static void source() throws Exception {
        CHECK.part("source");
        List<String> lines = Files.readAllLines(Path.of("src/main/java/NineMaps.java"));
        String[] never = {"package ", "catch", "try ", "finally", "synchronized", "assert ", "->", "::", "double ",
            "float ", "Random", "System.out", "System.nano", "System.current", "equals(", "hashCode", "Exact"};
        int code = 0;
        for (String line : lines) {
            String text = line.strip();
            if (text.startsWith("*") || text.startsWith("/*") || text.startsWith("//")) {
                continue;
            }
            code++;
            for (String word : never) {
                CHECK.due(word + " in: " + text, text.contains(word), false);
            }
            for (int i = 0; i < line.length(); i++) {
                CHECK.due("sign in: " + text, line.charAt(i) >= 32 && line.charAt(i) < 127, true);
            }
        }
        CHECK.due("there is a source", code > 500, true);
    }
}
