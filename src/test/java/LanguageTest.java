import java.io.File;
import java.io.PrintWriter;
import java.io.StringWriter;
import java.lang.reflect.Array;
import java.lang.reflect.Field;
import java.lang.reflect.Modifier;
import java.util.ArrayList;
import java.util.Arrays;
import java.util.IdentityHashMap;
import java.util.List;
import java.util.Map;
import java.util.Set;
import java.util.TreeMap;
import java.util.TreeSet;
import java.util.regex.Matcher;
import java.util.regex.Pattern;
import java.util.spi.ToolProvider;

/** Rules of LANGUAGE.md that show in the compiled class: what is called, how deep, and what is made. */
public final class LanguageTest {
    private static final int MOST_DEPTH = 8;
    private static final Pattern HEAD = Pattern.compile("^ {2}(?:[^ ].*[ .])?([\\w$<>]+)\\([^=]*\\);$");
    private static final Pattern CODE = Pattern.compile("^ +\\d+: (\\w+)(.*)$");
    private static final Pattern CALLED = Pattern.compile("// (?:Interface)?Method ([\\w$/]+\\.)?\"?([\\w$<>]+)\"?:");
    private static final Pattern LIBRARY = Pattern.compile("java/lang/(Object\\.<init>|System\\.arraycopy"
        + "|Math\\.(abs|min|max|floorDiv|floorMod)|Integer\\.(bitCount|compare)|String\\.(length|charAt))");
    private static final Set<String> MAKING = Set.of("new", "newarray", "anewarray", "multianewarray");
    private static final Set<String> BARRED = Set.of("athrow", "monitorenter", "monitorexit", "invokedynamic", "checkcast");

    /** By method: its codes, each with what stands behind it. */
    private final Map<String, List<String>> codes = new TreeMap<>();
    /** By method: those that it calls. */
    private final Map<String, Set<String>> calls = new TreeMap<>();

    public static void main(String[] args) throws ReflectiveOperationException {
        LanguageTest test = new LanguageTest();
        test.takeApart();
        test.instructions();
        test.library();
        test.depth();
        room();
        Due.end();
    }

    private void takeApart() {
        File folder = new File(RopeEnds.class.getProtectionDomain().getCodeSource().getLocation().getPath());
        File[] files = folder.listFiles((dir, name) -> name.matches("RopeEnds(\\$\\w+)?\\.class"));
        Due.isSo("there are classes", files != null && files.length > 1);
        for (File file : files) {
            takeApart(file.getName().replace(".class", ""), told(file));
        }
        Due.isSo("there are methods", codes.size() > 39);
    }

    private static String told(File file) {
        StringWriter told = new StringWriter();
        PrintWriter out = new PrintWriter(told, true);
        int result = ToolProvider.findFirst("javap").orElseThrow().run(out, out, "-c", "-p", file.getPath());
        Due.is("javap " + file.getName(), result, 0);
        return told.toString();
    }

    private void takeApart(String className, String told) {
        String method = "";
        for (String line : told.split("\n")) {
            Matcher head = HEAD.matcher(line);
            Matcher code = CODE.matcher(line);
            if (line.equals("  static {};")) {
                method = className + ".<clinit>";
                begin(method);
            } else if (head.matches()) {
                boolean makes = head.group(1).equals(className);
                method = className + "." + (makes ? "<init>" : head.group(1));
                begin(method);
            } else if (code.matches() && codes.containsKey(method)) {
                codes.get(method).add(code.group(1) + code.group(2));
                Matcher called = CALLED.matcher(line);
                if (called.find()) {
                    String of = called.group(1) == null ? className + "." : called.group(1);
                    calls.get(method).add(of + called.group(2));
                }
            }
        }
    }

    /** Methods of one name in one class count as one. */
    private void begin(String method) {
        codes.putIfAbsent(method, new ArrayList<>());
        calls.putIfAbsent(method, new TreeSet<>());
    }

    private void instructions() {
        for (Map.Entry<String, List<String>> method : codes.entrySet()) {
            boolean makesAnObject = method.getKey().endsWith("init>");
            String before = "";
            for (String code : method.getValue()) {
                String name = code.split(" ")[0];
                String what = method.getKey() + ": " + code.trim();
                Due.isSo(what + " is allowed", !BARRED.contains(name));
                Due.isSo(what + " makes nothing behind a constructor", makesAnObject || !MAKING.contains(name));
                Due.isSo(what + " leaves what is static", makesAnObject || !name.equals("putstatic"));
                Due.isSo(what + " is not of doubles or floats", !name.matches("[fd](load|store|add|sub|mul|div|rem|neg|cmp|const).*"));
                if (name.matches("[il](div|rem)")) {
                    Due.isSo(what + " divides by a constant", before.matches("(iconst_[1-5]|[bs]ipush +[1-9]).*"));
                }
                before = code;
            }
        }
    }

    private void library() {
        for (Map.Entry<String, Set<String>> method : calls.entrySet()) {
            for (String called : method.getValue()) {
                boolean isOwn = codes.containsKey(called);
                Due.isSo(method.getKey() + " may call " + called, isOwn || LIBRARY.matcher(called).matches());
            }
        }
    }

    private void depth() {
        for (String method : codes.keySet()) {
            String way = deepest(method, "");
            Due.isSo("no deeper than " + MOST_DEPTH + ":" + way, way.split(" ").length - 1 <= MOST_DEPTH);
        }
    }

    /** The longest way of calls from a method on; one that comes back to itself ends there, too deep. */
    private String deepest(String method, String way) {
        String here = way + " " + method;
        if (Arrays.asList(way.split(" ")).contains(method)) {
            return here + " is called by itself" + " again".repeat(MOST_DEPTH);
        }
        String deepest = here;
        for (String called : calls.getOrDefault(method, Set.of())) {
            String further = deepest(called, here);
            deepest = further.split(" ").length > deepest.split(" ").length ? further : deepest;
        }
        return deepest;
    }

    /** A run has room for 600,000 objects and 7,300,000 fields and elements. */
    private static void room() throws ReflectiveOperationException {
        Map<Object, Boolean> seen = new IdentityHashMap<>();
        int fields = count(new RopeEnds(), seen);
        Due.isSo("few objects: " + seen.size(), seen.size() <= 60);
        Due.isSo("few fields and elements: " + fields, fields <= 1000);
    }

    private static int count(Object x, Map<Object, Boolean> seen) throws ReflectiveOperationException {
        if (x == null || seen.put(x, true) != null) {
            return 0;
        }
        int n = 0;
        if (x.getClass().isArray()) {
            n = Array.getLength(x);
            for (int i = 0; i < Array.getLength(x) && !x.getClass().getComponentType().isPrimitive(); i++) {
                n += count(Array.get(x, i), seen);
            }
            return n;
        }
        for (Field f : x.getClass().getDeclaredFields()) {
            if (!Modifier.isStatic(f.getModifiers())) {
                f.setAccessible(true);
                n += 1 + (f.getType().isPrimitive() ? 0 : count(f.get(x), seen));
            }
        }
        return n;
    }
}
