import java.lang.reflect.Constructor;
import java.lang.reflect.Field;
import java.lang.reflect.Method;
import java.lang.reflect.Modifier;
import java.nio.charset.StandardCharsets;
import java.nio.file.Files;
import java.nio.file.Path;
import java.util.Set;
import java.util.TreeSet;
import java.util.regex.Matcher;
import java.util.regex.Pattern;

/** The public face, and of the rules of LANGUAGE.md those that can be looked up. Argument: the source file. */
public final class LanguageTest {
    private static final Due DUE = new Due();
    private static final String FACE = "int feed(int) int board() int cutter(int,int,int,int,int) int of(int,int) "
            + "int thick(int,int) int row(int,int,int) int loaf(int) int told(int) int cut(int) int right() "
            + "int turn(boolean) int would(int,int) int on(int,int) int toasted(int,int) int lasts() int order(int) "
            + "int cancel() int enough(int) int when(int,int) int guide(int) int again(int) int evener(int,int) "
            + "int game(int,int,int,int) int cheese(int,int) int see(int,int) int who() int week(int) int clear() "
            + "int rows(int) long odds(int,int) long mean(int) int book(int,int) int looked() int act(int,int,int) "
            + "int trace(int) int as(int,int) int image() int undo() int count(int)";

    public static void main(String[] args) throws Exception {
        face();
        classes();
        words(Files.readString(Path.of(args[0]), StandardCharsets.UTF_8));
        DUE.end();
    }

    private static void ok(String rule, boolean holds) {
        DUE.is(rule, holds ? 1 : 0, 1);
    }

    private static void face() {
        DUE.part("rule 1");
        Set<String> due = new TreeSet<>(Set.of(FACE.replaceAll("\\) ", ")#").split("#")));
        Set<String> got = new TreeSet<>();
        for (Method m : CutCrooked.class.getDeclaredMethods()) {
            if (!Modifier.isPrivate(m.getModifiers())) {
                ok(m.getName() + " is public", Modifier.isPublic(m.getModifiers()));
                String signature = m.getReturnType() + " " + m.getName() + "(";
                for (Class<?> p : m.getParameterTypes()) {
                    signature += (signature.endsWith("(") ? "" : ",") + p;
                }
                got.add(signature + ")");
            }
        }
        ok("the methods are " + due + ", not " + got, due.equals(got));
        Set<String> open = new TreeSet<>();
        for (Field f : CutCrooked.class.getDeclaredFields()) {
            if (!Modifier.isPrivate(f.getModifiers())) {
                open.add(Modifier.toString(f.getModifiers()) + " " + f.getType() + " " + f.getName());
            }
        }
        String constant = "public static final int ";
        ok("the constants, not " + open, open.equals(Set.of(constant + "NONE", constant + "BAD", constant + "STATE",
                constant + "FULL", "public static final long NO")));
        Constructor<?>[] made = CutCrooked.class.getDeclaredConstructors();
        ok("one constructor", made.length == 1 && Modifier.isPublic(made[0].getModifiers())
                && made[0].getParameterCount() == 0);
        ok("public and final", (CutCrooked.class.getModifiers() & (Modifier.PUBLIC | Modifier.FINAL))
                == (Modifier.PUBLIC | Modifier.FINAL));
    }

    private static void classes() {
        DUE.part("rules 2, 5, 11");
        Class<?>[] inside = CutCrooked.class.getDeclaredClasses();
        ok("twelve classes at most", inside.length + 1 <= 12);
        members(CutCrooked.class);
        for (Class<?> c : inside) {
            ok(c + " is static", Modifier.isStatic(c.getModifiers()));
            ok(c + " is not open", !Modifier.isPublic(c.getModifiers()) && !Modifier.isProtected(c.getModifiers()));
            members(c);
        }
    }

    private static void members(Class<?> c) {
        int fields = 0;
        for (Field f : c.getDeclaredFields()) {
            boolean isStatic = Modifier.isStatic(f.getModifiers());
            ok(f + " is final", !isStatic || Modifier.isFinal(f.getModifiers()));
            fields += isStatic ? 0 : 1;
        }
        ok(c + " has twenty fields at most", fields <= 20);
        for (Method m : c.getDeclaredMethods()) {
            ok(m + " takes seven at most", m.getParameterCount() <= 7);
            boolean named = FACE.contains(" " + m.getName() + "(");
            ok(m + " has a name of its own", c == CutCrooked.class && Modifier.isPublic(m.getModifiers()) || !named);
        }
    }

    private static void words(String source) {
        DUE.part("rules 2 to 6, 13");
        ok("signs are ASCII", source.chars().allMatch(c -> c < 128));
        String code = source.replaceAll("(?s)/\\*.*?\\*/", "").replaceAll("//[^\n]*", "");
        for (String word : new String[] {"throw", "throws", "try", "catch", "synchronized", "assert", "import",
            "package", "protected", "equals", "hashCode", "toString", "enum", "record", "System", "Object", "float",
            "double", "instanceof Object", "Exact", "yield", "var"}) {
            Matcher m = Pattern.compile("\\b" + word + "\\b").matcher(code);
            while (m.find()) {
                ok("no " + word, code.startsWith("System.arraycopy(", m.start()));
            }
        }
        for (String sign : new String[] {"->", "::", "static {", "@"}) {
            ok("no " + sign, !code.contains(sign));
        }
        DUE.part("rule 9");
        ok("no loop without a bound", !code.contains("while") && !code.contains("for (;;"));
        DUE.part("rule 11");
        int start = 0;
        String[] lines = source.split("\n");
        for (int i = 0; i < lines.length; i++) {
            ok("line " + (i + 1) + " is short", lines[i].length() <= 120);
            if (lines[i].matches(" {4}( {4})?\\S.*\\) \\{") && !lines[i].matches(" *(if|for|switch).*")) {
                start = i;
            }
            if (lines[i].matches(" {4}( {4})?\\}")) {
                ok("the method at line " + (start + 1) + " is short", i - start <= 60 || !lines[start].contains("("));
            }
        }
    }
}
