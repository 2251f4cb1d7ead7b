import java.io.IOException;
import java.lang.reflect.Constructor;
import java.lang.reflect.Executable;
import java.lang.reflect.Field;
import java.lang.reflect.Method;
import java.lang.reflect.Modifier;
import java.nio.file.Files;
import java.nio.file.Path;
import java.util.Arrays;
import java.util.Set;
import java.util.TreeSet;
import java.util.regex.Matcher;
import java.util.regex.Pattern;

/** The public face as the document has it, and the rules of LANGUAGE.md that can be looked up. */
public final class FaceTest {
    private static final String[] FACE = {"int feed(int,int,int,int,int)", "int desk(int)", "int fault(int)",
        "int drawer(int,int)", "int visit(int,int)", "int opened(int,int)", "int letOff()", "int swap(int,int)",
        "int nights(int)", "int clue(int)", "int undo(int)", "int judge(int,int)", "int perform(int)",
        "int year(int,int)", "int lies(int)", "int round(int,int)", "int power(long)", "int roots(int)",
        "long bounded(int,int)", "int fewest(int)", "int way(int,int)", "long rows(int,int)", "int ofAll(int)",
        "int ofOne(int)", "int just(int)", "int at(long)", "int comesRound()", "int first(int)",
        "long often(int,long)", "int found(int,int)", "int names(int,int,int)", "int look(int,int)",
        "int clues(int)", "int forces(int)", "int best(int)", "int chance(int,int,int)", "int mean(int,int)",
        "int numbers(int,int,int)", "long write(int,int,long)", "int lists(int,int)", "int image(int)",
        "int restore(int)", "int count(int)"};

    private FaceTest() {
    }

    public static void main(String[] args) throws IOException {
        face();
        for (Class<?> inside : DrawerNames.class.getDeclaredClasses()) {
            inside(inside);
        }
        Checks.holds("few classes", DrawerNames.class.getDeclaredClasses().length <= 12);
        source(Files.readString(Path.of("src/main/java/DrawerNames.java")));
        Checks.end();
    }

    private static void face() {
        Class<?> c = DrawerNames.class;
        Checks.holds("public and final", c.getModifiers() == (Modifier.PUBLIC | Modifier.FINAL));
        Set<String> found = new TreeSet<>();
        Set<String> publicNames = new TreeSet<>();
        for (Method m : c.getDeclaredMethods()) {
            if (!Modifier.isPrivate(m.getModifiers())) {
                publicNames.add(m.getName());
                found.add(told(m));
            }
        }
        Checks.holds("methods: " + found, found.equals(new TreeSet<>(Arrays.asList(FACE))));
        ownNames(c, publicNames);
        for (Constructor<?> made : c.getDeclaredConstructors()) {
            Checks.holds("one constructor", Modifier.isPublic(made.getModifiers()) && made.getParameterCount() == 0);
        }
        for (Field f : c.getDeclaredFields()) {
            Checks.holds("field " + f, Modifier.isPrivate(f.getModifiers()) || f.getName().equals("NONE"));
        }
    }

    private static String told(Method m) {
        StringBuilder types = new StringBuilder();
        for (Class<?> type : m.getParameterTypes()) {
            types.append(types.length() > 0 ? "," : "").append(type.getName());
        }
        return m.getReturnType().getName() + " " + m.getName() + "(" + types + ")";
    }

    private static void ownNames(Class<?> c, Set<String> publicNames) {
        for (Class<?> inside : c.getDeclaredClasses()) {
            for (Method m : inside.getDeclaredMethods()) {
                Checks.holds("a name of its own: " + m, !publicNames.contains(m.getName()));
            }
        }
        for (Method m : c.getDeclaredMethods()) {
            if (Modifier.isPrivate(m.getModifiers())) {
                Checks.holds("a name of its own: " + m, !publicNames.contains(m.getName()));
            }
        }
    }

    private static void inside(Class<?> c) {
        Checks.holds("static: " + c, Modifier.isStatic(c.getModifiers()));
        Checks.holds("not public: " + c, !Modifier.isPublic(c.getModifiers()) && !Modifier.isProtected(c.getModifiers()));
        long fields = Arrays.stream(c.getDeclaredFields()).filter(f -> !Modifier.isStatic(f.getModifiers())).count();
        Checks.holds("few fields: " + c, fields <= 20);
        for (Field f : c.getDeclaredFields()) {
            Checks.holds("no static state: " + f, !Modifier.isStatic(f.getModifiers()) || Modifier.isFinal(f.getModifiers()));
        }
        for (Executable e : c.getDeclaredMethods()) {
            Checks.holds("few parameters: " + e, e.getParameterCount() <= 7);
        }
    }

    private static void source(String text) {
        String[] never = {"\\bthrow\\b", "\\btry\\b", "\\bcatch\\b", "\\bsynchronized\\b", "\\bassert\\b", "->", "::",
            "Exact\\b", "System\\.(?!arraycopy)", "\\bpackage\\b", "@", "\\bnew [A-Za-z]+\\(.*\\) \\{", "\\bstatic \\{",
            "hashCode|toString|\\.equals", "[^\\x00-\\x7f]"};
        for (String word : never) {
            Matcher m = Pattern.compile(word).matcher(text);
            Checks.holds("not in the source: " + word, !m.find());
        }
        Matcher imports = Pattern.compile("(?m)^import (.*);$").matcher(text);
        while (imports.find()) {
            Checks.holds("import " + imports.group(1), imports.group(1).matches("java\\.util\\.(Arrays|ArrayList|List)"));
        }
        int length = 0;
        for (String line : text.split("\n")) {
            length = line.isBlank() ? 0 : length + 1;
            Checks.holds("short methods: " + line, length <= 60);
        }
    }
}
