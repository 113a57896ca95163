import java.io.IOException;
import java.lang.reflect.Constructor;
import java.lang.reflect.Field;
import java.lang.reflect.Method;
import java.lang.reflect.Modifier;
import java.nio.charset.StandardCharsets;
import java.nio.file.Files;
import java.nio.file.Path;
import java.util.Arrays;
import java.util.TreeSet;
import java.util.regex.Matcher;
import java.util.regex.Pattern;

/** What of LANGUAGE.md can be seen from outside: the face, words that are ruled out, and that calls make no objects. */
public final class LanguageTests {
    private static final Check CHECK = new Check();
    private static final String[] FACE = {"type(int)", "clear()", "town()", "lamp(int,int)", "street(int,int)", "bell()",
        "turn(int)", "fog(int,int)", "undo()", "now(int)", "after(int)", "round(int)", "again()", "ahead(int,int)", "eden()",
        "lit(int,int,int)", "who(int,int,int)", "thief(int,int)", "still(int)", "mist(int)", "flickers(int,int)",
        "mark(int,int)", "keep(int)", "back(int)", "count(int)", "trace()"};
    private static final String[] RULED_OUT = {"throw", "throws", "try", "catch", "finally", "synchronized", "assert",
        "Object", "Exception", "System\\.(?!arraycopy)", "Thread", "random", "Random", "hashCode", "toString", "volatile",
        "native", "var", "->", "::", "\\w+Exact"};

    public static void main(String[] args) throws IOException {
        face();
        names();
        source();
        CHECK.end();
    }

    private static void face() {
        TreeSet<String> open = new TreeSet<>();
        for (Method m : FewerLamps.class.getDeclaredMethods()) {
            if (Modifier.isPublic(m.getModifiers())) {
                CHECK.holds(m + " is final or the class is", Modifier.isFinal(FewerLamps.class.getModifiers()));
                CHECK.holds(m + " answers int, trace long", m.getReturnType() == (m.getName().equals("trace") ? long.class : int.class));
                CHECK.holds(m + " is no static one", !Modifier.isStatic(m.getModifiers()));
                String types = Arrays.toString(m.getParameterTypes()).replaceAll("[\\[\\] ]", "");
                open.add(m.getName() + "(" + types + ")");
            } else {
                CHECK.holds(m + " is private", Modifier.isPrivate(m.getModifiers()));
            }
        }
        CHECK.holds("the face: " + open, open.equals(new TreeSet<>(Arrays.asList(FACE))));
        TreeSet<String> constants = new TreeSet<>();
        for (Field f : FewerLamps.class.getDeclaredFields()) {
            CHECK.holds(f + " is public or private", Modifier.isPublic(f.getModifiers()) || Modifier.isPrivate(f.getModifiers()));
            if (Modifier.isPublic(f.getModifiers())) {
                constants.add(f.getName());
                CHECK.holds(f + " is a constant", Modifier.isStatic(f.getModifiers()) && Modifier.isFinal(f.getModifiers()));
            }
        }
        CHECK.holds("constants: " + constants, constants.equals(new TreeSet<>(Arrays.asList("BAD", "STATE", "FULL", "NONE", "NO"))));
        for (Constructor<?> c : FewerLamps.class.getDeclaredConstructors()) {
            CHECK.holds(c + " is the constructor", Modifier.isPublic(c.getModifiers()) && c.getParameterCount() == 0);
        }
    }

    private static void names() {
        TreeSet<String> taken = new TreeSet<>();
        for (String call : FACE) {
            taken.add(call.substring(0, call.indexOf('(')));
        }
        Class<?>[] inside = FewerLamps.class.getDeclaredClasses();
        CHECK.holds("some twelve classes at most", inside.length < 12);
        for (Class<?> c : inside) {
            CHECK.holds(c + " is static", Modifier.isStatic(c.getModifiers()));
            CHECK.holds(c + " has some twenty fields at most", c.getDeclaredFields().length <= 20);
            for (Method m : c.getDeclaredMethods()) {
                CHECK.holds(m + " bears a name of its own", !taken.contains(m.getName()));
                CHECK.holds(m + " takes seven at most", m.getParameterCount() <= 7);
            }
            for (Field f : c.getDeclaredFields()) {
                CHECK.holds(f + ": what is static is final", !Modifier.isStatic(f.getModifiers()) || Modifier.isFinal(f.getModifiers()));
            }
        }
    }

    private static void source() throws IOException {
        String source = Files.readString(Path.of("src/main/java/FewerLamps.java"), StandardCharsets.US_ASCII);
        String code = source.replaceAll("(?s)/\\*.*?\\*/", "").replaceAll("//[^\n]*", "");
        for (String word : RULED_OUT) {
            String edge = word.matches("\\w.*") ? "\\b" : "";
            Matcher m = Pattern.compile(edge + word + (word.matches(".*\\w") ? "\\b" : "")).matcher(code);
            CHECK.holds("no " + word, !m.find());
        }
        CHECK.holds("no package", !Pattern.compile("(?m)^package").matcher(code).find());
        Matcher imports = Pattern.compile("import ([\\w.]+);").matcher(code);
        while (imports.find()) {
            CHECK.holds("import " + imports.group(1), imports.group(1).equals("java.util.Arrays"));
        }
        // Rows are made once: an object is made only where a field begins.
        for (String line : code.split("\n")) {
            if (line.contains("new ")) {
                CHECK.holds("made with the object: " + line.trim(), line.trim().matches("(private )?final .* = .*;"));
            }
        }
    }
}
