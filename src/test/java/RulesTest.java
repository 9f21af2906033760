import java.io.IOException;
import java.lang.management.ManagementFactory;
import java.lang.reflect.Member;
import java.lang.reflect.Method;
import java.lang.reflect.Modifier;
import java.nio.file.Files;
import java.nio.file.Path;
import java.util.Random;
import java.util.TreeSet;
import java.util.regex.Matcher;
import java.util.regex.Pattern;
import java.util.stream.Stream;

/** What LANGUAGE.md and the room ask of the class, as far as a test can see it. Run from the project's folder. */
public final class RulesTest {
    private static int wrong = 0;

    private static void must(boolean so, String what) {
        if (!so) {
            wrong++;
            System.out.println("not so: " + what);
        }
    }

    /** Comments and texts say nothing about the language. */
    private static String bare(String source) {
        return source.replaceAll("(?s)/\\*.*?\\*/", " ").replaceAll("//[^\n]*", " ")
            .replaceAll("\"(\\\\.|[^\"\\\\])*\"", "\"\"").replaceAll("'(\\\\.|[^'\\\\])'", "' '");
    }

    private static void words(String code) {
        String[] banned = {"throw", "throws", "try", "catch", "finally", "synchronized", "assert", "volatile", "native",
            "System\\.(?!arraycopy)\\w+", "\\w+Exact", "->", "::", "new\\s+Object", "Random", "Thread", "static\\s*\\{",
            "protected", "\\[\\]\\s*\\[\\]", "hashCode", "toString", "float", "double"};
        for (String word : banned) {
            Pattern p = Pattern.compile(word.matches("\\w+") ? "\\b" + word + "\\b" : word);
            must(!p.matcher(code).find(), "the class has no " + word);
        }
        Matcher imports = Pattern.compile("import\\s+([\\w.]+)").matcher(code);
        while (imports.find()) {
            must(imports.group(1).equals("java.util.Arrays"), "import of java.util.Arrays alone");
        }
        must(!code.contains("package "), "no package");
    }

    private static void methods(String[] lines) {
        int begun = -1;
        for (int i = 0; i < lines.length; i++) {
            String line = lines[i];
            boolean head = line.matches("\\s{4,8}[\\w ]+[\\w\\[\\]]+\\(.*\\) \\{") && !line.matches("\\s+(if|for|while|switch|return)\\b.*");
            if (head) {
                begun = i;
                must(line.split(",").length <= 7, "seven parameters at most: " + line);
            }
            if (begun >= 0 && line.matches("\\s{4,8}\\}") && line.indexOf('}') == indent(lines[begun])) {
                must(i - begun < 60, "a short method: " + lines[begun]);
                begun = -1;
            }
            must(line.length() <= 130, "a short line: " + line);
        }
    }

    private static int indent(String line) {
        return line.length() - line.stripLeading().length();
    }

    private static void face() {
        TreeSet<String> open = new TreeSet<>();
        for (Method m : HardestVows.class.getDeclaredMethods()) {
            if (Modifier.isPublic(m.getModifiers())) {
                open.add(m.getName());
            }
        }
        for (Method m : HardestVows.class.getDeclaredMethods()) {
            must(Modifier.isPublic(m.getModifiers()) || Modifier.isPrivate(m.getModifiers()), m + " is public or private");
            must(Modifier.isPublic(m.getModifiers()) || !open.contains(m.getName()), m + " bears no public name");
        }
        Class<?>[] inside = HardestVows.class.getDeclaredClasses();
        must(inside.length <= 12, "twelve classes at most");
        for (Class<?> c : inside) {
            must(Modifier.isStatic(c.getModifiers()), c + " is static");
            must(Modifier.isPrivate(c.getModifiers()), c + " is private");
            for (Method m : c.getDeclaredMethods()) {
                must(!open.contains(m.getName()), m + " bears no public name");
            }
        }
        must(Modifier.isFinal(HardestVows.class.getModifiers()), "the class is final");
    }

    /** Each line of the document's face is a member of the class, and the class has no other that is not private. */
    private static void faceIsTheDocuments() throws IOException {
        TreeSet<String> due = new TreeSet<>();
        for (String line : Document.parts().get("The public face").split("\n")) {
            if (line.startsWith("    public ")) {
                due.add(line.strip().replaceAll("int \\w+([,)])", "int$1").replaceAll(" = .*;", ";"));
            }
        }
        TreeSet<String> found = new TreeSet<>();
        Class<?> c = HardestVows.class;
        Stream.of(c.getDeclaredMethods(), c.getDeclaredFields(), c.getDeclaredConstructors())
            .flatMap(Stream::of).filter(m -> !Modifier.isPrivate(((Member) m).getModifiers()))
            .forEach(m -> found.add(m.toString().replaceAll("HardestVows\\.(?=\\w)", "").replace(",", ", ") + ";"));
        must(due.size() == 39, "the document's face has a constant, a constructor and 37 methods: " + due.size());
        must(found.equals(due), "the face is the document's " + due + ", not " + found);
    }

    private static long bytes() {
        return ((com.sun.management.ThreadMXBean) ManagementFactory.getThreadMXBean())
            .getThreadAllocatedBytes(Thread.currentThread().getId());
    }

    /** The room has 7.3 million elements for all objects of a run: no call but law() and image() may make any. */
    private static void room() {
        HardestVows warm = new HardestVows();
        dear(warm, 0);
        long ahead = bytes();
        HardestVows x = new HardestVows();
        long made = bytes() - ahead;
        must(made < 40000, "a new object is small: " + made + " bytes");
        ahead = bytes();
        for (int round = 0; round < 20; round++) {
            dear(x, round);
        }
        long used = bytes() - ahead;
        must(used < 200000, "520 calls are small: " + used + " bytes");
        System.out.println("a new object: " + made + " bytes, 520 dear calls: " + used + " bytes");
    }

    private static void dear(HardestVows x, int round) {
        x.monk(50 + round);
        x.feed(0x73686f77, 0x73206861, 0x72642f32, 0, 0);
        x.end(12);
        x.law();
        x.force(0);
        x.feed(0x70617373, 0x2074696d, 0x65732032, 0x30000000, 0);
        x.end(13);
        x.orders();
        x.give(round % 7, round % 7);
        x.swap(0, 1);
        x.best(0);
        x.fair(0);
        x.wished(0);
        x.swaps(-1);
        x.hide(0, 0);
        x.soft(1);
        x.kept(0, 60);
        x.seen(0, 10);
        x.who();
        x.look(0);
        x.compare(0);
        x.years(round, 100);
        x.image(round % 2);
        x.undo();
        x.lay(0);
        x.back(round % 2);
    }

    /** Any arguments in any state. */
    private static void neverThrows() throws ReflectiveOperationException {
        Random chance = new Random(5);
        int[] edges = {Integer.MIN_VALUE, Integer.MIN_VALUE + 1, -100, -7, -2, -1, 0, 1, 2, 3, 4, 5, 6, 7, 8, 50, 99, 100,
            400, 999, 1000, 1000000, 1000001, Integer.MAX_VALUE - 1, Integer.MAX_VALUE, 0x66616c6c, 0x62617273, 0x70617373};
        Method[] all = HardestVows.class.getDeclaredMethods();
        for (int run = 0; run < 200; run++) {
            HardestVows x = new HardestVows();
            for (int i = 0; i < 511; i++) {
                Method m = all[chance.nextInt(all.length)];
                if (!Modifier.isPublic(m.getModifiers()) || (m.getName().equals("soft") && chance.nextInt(5) > 0)) {
                    continue;
                }
                Object[] a = new Object[m.getParameterCount()];
                for (int j = 0; j < a.length; j++) {
                    a[j] = chance.nextInt(3) == 0 ? edges[chance.nextInt(edges.length)] : chance.nextInt(7);
                }
                m.invoke(x, a);
            }
        }
    }

    public static void main(String[] args) throws IOException, ReflectiveOperationException {
        String source = Files.readString(Path.of("src/main/java/HardestVows.java"));
        words(bare(source));
        methods(source.split("\n"));
        face();
        faceIsTheDocuments();
        room();
        neverThrows();
        System.out.println(wrong + " rules broken");
        if (wrong != 0) {
            System.exit(1);
        }
    }
}
