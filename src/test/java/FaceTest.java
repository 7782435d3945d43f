import java.io.IOException;
import java.lang.reflect.Constructor;
import java.lang.reflect.Field;
import java.lang.reflect.Method;
import java.lang.reflect.Modifier;
import java.nio.file.Files;
import java.nio.file.Path;
import java.util.Arrays;
import java.util.HashSet;
import java.util.Set;
import java.util.TreeSet;
import java.util.regex.Matcher;
import java.util.regex.Pattern;

/** The public face as the document has it, and those rules of LANGUAGE.md that can be looked for. */
public final class FaceTest {
    private static final String[] FACE = {
        "int rope(int)", "int of(int,int)", "int set(int,int,int)", "int turn(int,int)", "int as(int,int)",
        "int meets(int,int)", "int call(int,int)", "int present(int,int,int)", "int forget(int,int)",
        "int cut(int,int)", "int bends(int,int)", "int gale(int)", "int hours(int)", "int now(int)",
        "int on(int,int)", "int when(int,int)", "int longest()", "int line(int,int)", "int bent(int,int)",
        "int rounds(int,int)", "int known()", "int kind(int)", "int fibre(int)", "int hour(int)",
        "int feed(int,int)", "int wipe()", "int store()", "int sheet(int,int,int)", "long write(int,int,long)",
        "int copy(int,int,int,int,int)", "int lays(int)", "int book(int,int)", "int read(int)", "int image()",
        "int undo()", "int tear()", "int count(int)", "int status(int)"};

    public static void main(String[] args) throws IOException {
        face();
        membersInside();
        source(Files.readString(Path.of(System.getProperty("rope.source"))));
        Due.end();
    }

    private static String told(Method m) {
        StringBuilder told = new StringBuilder(m.getReturnType() + " " + m.getName() + "(");
        for (Class<?> type : m.getParameterTypes()) {
            told.append(told.charAt(told.length() - 1) == '(' ? "" : ",").append(type);
        }
        return told.append(")").toString();
    }

    private static void face() {
        Class<?> face = RopeEnds.class;
        Due.isSo("public and final", Modifier.isPublic(face.getModifiers()) && Modifier.isFinal(face.getModifiers()));
        Due.isSo("no package", face.getPackageName().isEmpty());
        Set<String> due = new TreeSet<>(Arrays.asList(FACE));
        Set<String> found = new TreeSet<>();
        Set<String> names = new HashSet<>();
        for (Method m : face.getDeclaredMethods()) {
            if (!Modifier.isPrivate(m.getModifiers())) {
                found.add(told(m));
                names.add(m.getName());
                Due.isSo(m + " is public", Modifier.isPublic(m.getModifiers()) && !Modifier.isStatic(m.getModifiers()));
            }
        }
        Due.isSo("the face is " + found, found.equals(due));
        for (Method m : face.getDeclaredMethods()) {
            boolean isPrivate = Modifier.isPrivate(m.getModifiers());
            Due.isSo(m + " has a name of its own", !isPrivate || !names.contains(m.getName()));
        }
        Constructor<?>[] makers = face.getDeclaredConstructors();
        Due.isSo("one public constructor", makers.length == 1 && Modifier.isPublic(makers[0].getModifiers())
            && makers[0].getParameterCount() == 0);
        for (Field f : face.getDeclaredFields()) {
            Due.isSo(f + " is private", Modifier.isPrivate(f.getModifiers()));
        }
    }

    private static void membersInside() {
        Class<?>[] inside = RopeEnds.class.getDeclaredClasses();
        Due.isSo("at most twelve classes", inside.length < 12);
        Set<String> names = new HashSet<>();
        for (String f : FACE) {
            names.add(f.substring(f.indexOf(' ') + 1, f.indexOf('(')));
        }
        for (Class<?> c : inside) {
            Due.isSo(c + " is static and private", Modifier.isStatic(c.getModifiers()) && Modifier.isPrivate(c.getModifiers()));
            for (Method m : c.getDeclaredMethods()) {
                Due.isSo(m + " has a name of its own", !names.contains(m.getName()));
                Due.isSo(m + " takes at most seven", m.getParameterCount() <= 7);
            }
            for (Field f : c.getDeclaredFields()) {
                Due.isSo(f + " if static is final", !Modifier.isStatic(f.getModifiers()) || Modifier.isFinal(f.getModifiers()));
            }
        }
        for (Field f : RopeEnds.class.getDeclaredFields()) {
            Due.isSo(f + " if static is final", !Modifier.isStatic(f.getModifiers()) || Modifier.isFinal(f.getModifiers()));
        }
    }

    private static void source(String text) {
        String code = text.replaceAll("(?s)/\\*.*?\\*/", " ").replaceAll("//[^\n]*", " ");
        for (String word : new String[] {"throw", "throws", "try", "catch", "synchronized", "assert", "import", "package",
            "double", "float", "Object", "System\\.(?!arraycopy)", "Exact", "hashCode", "toString", "random", "Thread"}) {
            Matcher m = Pattern.compile("\\b" + word + "(?![a-zA-Z])").matcher(code);
            Due.isSo("no " + word + " in the source", !m.find());
        }
        Due.isSo("no lambda and no method reference", !code.contains("->") && !code.contains("::"));
        Due.isSo("plain signs only", text.chars().allMatch(c -> c == '\n' || c >= 32 && c < 127));
        Due.isSo("no text joined by +", !Pattern.compile("\"\\s*\\+|\\+\\s*\"").matcher(code).find());
        methodsAreShort(text);
    }

    private static void methodsAreShort(String text) {
        String[] lines = text.split("\n");
        Pattern head = Pattern.compile("( {4}| {8})[a-zA-Z].*\\) \\{");
        for (int i = 0; i < lines.length; i++) {
            Matcher m = head.matcher(lines[i]);
            if (m.matches() && !lines[i].trim().startsWith("if") && !lines[i].trim().startsWith("for")) {
                int end = i;
                while (end < lines.length - 1 && !lines[end].equals(m.group(1) + "}")) {
                    end++;
                }
                Due.isSo(lines[i].trim() + " is short", end - i < 60);
            }
        }
    }
}
