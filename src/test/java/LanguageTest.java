import java.io.IOException;
import java.lang.reflect.Constructor;
import java.lang.reflect.Field;
import java.lang.reflect.Method;
import java.lang.reflect.Modifier;
import java.nio.file.Files;
import java.nio.file.Path;
import java.util.Arrays;
import java.util.Set;
import java.util.TreeSet;
import java.util.regex.Matcher;
import java.util.regex.Pattern;

/** The face, and those rules of LANGUAGE.md that can be seen in the source or by reflection. */
public final class LanguageTest {
    private static final Check CHECK = new Check("LanguageTest");
    private static final String[] FACE = {
        "int term(int,int,int)", "int alike(int,int)", "int anew()", "int of(int,int)", "int same(int,int)",
        "int classes()", "int about(int,int)", "int rule(int,int)", "int finding(int,int,int)", "int drop(int)",
        "int sets(int,int)", "int round()", "int rounds(int)", "int last(int)", "int still()", "int type(int)",
        "int clear()", "int reads()", "int writing(int,int)", "int back()", "int told(int)", "long digest()"};

    public static void main(String[] args) throws IOException {
        face();
        nestedClasses();
        source(withoutTexts(Files.readString(Path.of("src/main/java/TriggerMatches.java"))));
        CHECK.end();
    }

    private static void face() {
        Class<?> c = TriggerMatches.class;
        CHECK.that("public and final", Modifier.isPublic(c.getModifiers()) && Modifier.isFinal(c.getModifiers()));
        Set<String> open = new TreeSet<>();
        Set<String> closed = new TreeSet<>();
        for (Method m : c.getDeclaredMethods()) {
            StringBuilder told = new StringBuilder(m.getReturnType() + " " + m.getName() + "(");
            for (Class<?> p : m.getParameterTypes()) {
                told.append(told.toString().endsWith("(") ? "" : ",").append(p);
            }
            boolean isPublic = Modifier.isPublic(m.getModifiers());
            (isPublic ? open : closed).add(isPublic ? told + ")" : m.getName());
            CHECK.that(m + " is public or private", isPublic || Modifier.isPrivate(m.getModifiers()));
        }
        CHECK.that("the public methods: " + open, open.equals(new TreeSet<>(Arrays.asList(FACE))));
        for (String method : FACE) {
            String name = method.substring(method.indexOf(' ') + 1, method.indexOf('('));
            CHECK.that("no private method is called " + name, !closed.contains(name));
        }
        Set<String> constants = new TreeSet<>();
        for (Field f : c.getDeclaredFields()) {
            if (Modifier.isPublic(f.getModifiers())) {
                constants.add(f.getName());
            } else {
                CHECK.that(f + " is private", Modifier.isPrivate(f.getModifiers()));
            }
        }
        CHECK.that("the constants: " + constants, constants.equals(Set.of("NONE", "BAD", "NO", "FULL")));
        CHECK.due("NONE", TriggerMatches.NONE, -1);
        CHECK.due("BAD", TriggerMatches.BAD, -2);
        CHECK.due("NO", TriggerMatches.NO, -3);
        CHECK.due("FULL", TriggerMatches.FULL, -4);
        Constructor<?>[] made = c.getDeclaredConstructors();
        CHECK.that("one public constructor without arguments", made.length == 1
                && Modifier.isPublic(made[0].getModifiers()) && made[0].getParameterCount() == 0);
    }

    private static void nestedClasses() {
        Class<?>[] all = TriggerMatches.class.getDeclaredClasses();
        CHECK.that("classes: " + (all.length + 1), all.length + 1 <= 12);
        for (Class<?> c : all) {
            CHECK.that(c + " is static", Modifier.isStatic(c.getModifiers()));
            int fields = 0;
            for (Field f : c.getDeclaredFields()) {
                boolean isStatic = Modifier.isStatic(f.getModifiers());
                CHECK.that(f + ": a static field is final", !isStatic || Modifier.isFinal(f.getModifiers()));
                fields += isStatic ? 0 : 1;
            }
            CHECK.that(c + ": fields " + fields, fields <= 20);
            for (Method m : c.getDeclaredMethods()) {
                CHECK.that(m + ": parameters", m.getParameterCount() <= 7);
                CHECK.that(m + ": no other's business", !Set.of("equals", "hashCode", "toString").contains(m.getName()));
            }
        }
    }

    /** The source without comments and without what stands in quotes. */
    private static String withoutTexts(String source) {
        return source.replaceAll("(?s)/\\*.*?\\*/", "").replaceAll("//[^\n]*", "")
                .replaceAll("\"[^\"\n]*\"", "\"\"").replaceAll("'[^'\n]+'", "' '");
    }

    private static void source(String code) {
        String[] never = {"\\b(throw|throws|try|catch|finally|synchronized|assert|volatile|native)\\b", "->", "::",
            "\\bstatic\\s*\\{", "\\bpackage\\b", "\\bprotected\\b", "\\bSystem\\.(?!arraycopy\\b)", "Exact\\b",
            "\\b(Object|Thread|Random|Map|Set|Iterator|Throwable|Exception)\\b", "\\b\\w+\\[\\]\\[\\]\\[\\]"};
        for (String word : never) {
            Matcher m = Pattern.compile(word).matcher(code);
            CHECK.that("never " + word, !m.find());
        }
        Matcher imports = Pattern.compile("import ([^;]*);").matcher(code);
        while (imports.find()) {
            CHECK.that("import " + imports.group(1), imports.group(1).equals("java.util.Arrays"));
        }
        Matcher method = Pattern.compile("(?s)\n( {4,8})[^\n ][^\n;=]*\\([^\n;]*\\) \\{\n(.*?)\n\\1\\}\n").matcher(code);
        int methods = 0;
        while (method.find()) {
            methods++;
            CHECK.that("a short method: " + method.group().strip().split("\n")[0],
                    method.group(2).split("\n").length <= 60);
        }
        CHECK.that("methods are seen: " + methods, methods > 50);
    }
}
