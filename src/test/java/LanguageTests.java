import java.lang.reflect.Constructor;
import java.lang.reflect.Field;
import java.lang.reflect.Method;
import java.lang.reflect.Modifier;
import java.nio.file.Files;
import java.nio.file.Path;
import java.util.Arrays;
import java.util.List;
import java.util.Set;
import java.util.TreeSet;

/** The rules of ../shared/LANGUAGE.md that can be looked up in the class and in its source (told as the first argument). */
public final class LanguageTests {
    private static final String FACE = "anchor() axe() bay() beachBest() cell(1) clears() count(1) cut() haul(1) head(1) holds(3) image() judge() lays(1) letter(1) light() lighter()"
        + " line() log(1) night(2) now(1) on() over() plan(2) run(1) sail(1) set(2) still(1) stood(2) tide(2) wear(1) wind(2) worth(2)";
    private static final List<String> WORDS = List.of("throw", "throws", "try", "catch", "finally", "synchronized", "assert", "import", "package", "volatile", "native", "Object", "Integer",
        "Long", "Random", "Thread", "Runtime", "equals", "hashCode", "toString", "float", "double", "this", "var", "yield", "goto", "strictfp", "transient");
    private static int wrong = 0;

    public static void main(String[] args) throws Exception {
        face();
        classesInside();
        source(bare(Files.readString(Path.of(args.length > 0 ? args[0] : "src/main/java/Embayed.java"))));
        System.out.println(wrong == 0 ? "language: the rules are kept" : "language: " + wrong + " rules are not kept");
        if (wrong != 0) System.exit(1);
    }

    private static void rule(boolean kept, String what) {
        if (kept) return;
        wrong++;
        System.out.println("rule not kept: " + what);
    }

    private static void face() {
        rule(Modifier.isPublic(Embayed.class.getModifiers()) && Modifier.isFinal(Embayed.class.getModifiers()), "public and final");
        Set<String> seen = new TreeSet<>();
        Set<String> open = new TreeSet<>();
        for (Method m : Embayed.class.getDeclaredMethods()) {
            if (Modifier.isPublic(m.getModifiers())) {
                seen.add(m.getName() + "(" + (m.getParameterCount() == 0 ? "" : m.getParameterCount()) + ")");
                open.add(m.getName());
                rule(m.getReturnType() == int.class && !Modifier.isStatic(m.getModifiers()), "an int from " + m);
                for (Class<?> p : m.getParameterTypes()) rule(p == int.class, "ints into " + m);
            } else {
                rule(Modifier.isPrivate(m.getModifiers()), "private: " + m);
            }
        }
        rule(String.join(" ", seen).equals(FACE), "the face is " + seen);
        Constructor<?>[] made = Embayed.class.getDeclaredConstructors();
        rule(made.length == 1 && Modifier.isPublic(made[0].getModifiers()) && made[0].getParameterCount() == 0, "one constructor");
        for (Class<?> c : Embayed.class.getDeclaredClasses()) {
            for (Method m : c.getDeclaredMethods()) rule(!open.contains(m.getName()), "the name of a public method: " + m);
        }
        for (Method m : Embayed.class.getDeclaredMethods()) {
            rule(Modifier.isPublic(m.getModifiers()) || !open.contains(m.getName()), "the name of a public method: " + m);
        }
        fields(Embayed.class);
    }

    private static void classesInside() {
        Class<?>[] inside = Embayed.class.getDeclaredClasses();
        rule(inside.length <= 11, "twelve classes");
        for (Class<?> c : inside) {
            rule(Modifier.isStatic(c.getModifiers()) && Modifier.isPrivate(c.getModifiers()), "private and static: " + c);
            fields(c);
        }
    }

    private static void fields(Class<?> c) {
        int own = 0;
        for (Field f : c.getDeclaredFields()) {
            rule(Modifier.isPrivate(f.getModifiers()), "private: " + f);
            if (Modifier.isStatic(f.getModifiers())) rule(Modifier.isFinal(f.getModifiers()), "final: " + f);
            else own++;
        }
        rule(own <= 20, "twenty fields in " + c);
        for (Method m : c.getDeclaredMethods()) rule(m.getParameterCount() <= 7, "seven parameters: " + m);
    }

    /** The source without comments and without what stands between quotes. */
    private static String bare(String text) {
        for (int i = 0; i < text.length(); i++) rule(text.charAt(i) < 128, "sign " + (int) text.charAt(i));
        return text.replaceAll("(?s)/\\*.*?\\*/", "").replaceAll("//[^\n]*", "").replaceAll("'(\\\\.|[^'\\\\])'", "0").replaceAll("\"(\\\\.|[^\"\\\\])*\"", "TEXT");
    }

    private static void source(String bare) {
        List<String> words = Arrays.asList(bare.split("[^A-Za-z0-9_]+"));
        for (String w : WORDS) rule(!words.contains(w), "the word " + w);
        rule(!bare.contains("->") && !bare.contains("::"), "no lambda, no method reference");
        rule(!bare.matches("(?s).*\\bstatic\\s*\\{.*"), "no static initialiser");
        rule(!bare.contains("System.") && !bare.contains("java."), "no library but Math");
        String end = "";
        int lines = 0;
        String name = "";
        for (String l : bare.split("\n")) {
            if (l.contains("new ")) rule(l.matches(" +(private final \\w+(\\[\\])? )?\\w+ = new .*;"), "made once: " + l);
            if (l.matches("(    ){1,2}[\\w\\[\\] ]+\\([\\w\\[\\], ]*\\) \\{") && end.isEmpty()) {
                end = l.substring(0, l.length() - l.stripLeading().length()) + "}";
                lines = 0;
                name = l;
            }
            lines++;
            if (!end.isEmpty() && l.equals(end)) {
                rule(lines <= 60, "a method of " + lines + " lines: " + name);
                end = "";
            }
        }
    }
}
