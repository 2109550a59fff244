import java.io.IOException;
import java.lang.reflect.Constructor;
import java.lang.reflect.Field;
import java.lang.reflect.Member;
import java.lang.reflect.Method;
import java.lang.reflect.Modifier;
import java.nio.file.Files;
import java.nio.file.Path;
import java.util.ArrayList;
import java.util.List;
import java.util.Set;
import java.util.TreeSet;
import java.util.regex.Matcher;
import java.util.regex.Pattern;

/** The public face of the class, and those rules of the language that can be looked up in its source. */
public final class LanguageTest {
    private static final Path SOURCE = Path.of("src/main/java/HoleFills.java");
    private static final String[] FACE = {
        "int town(int,int)", "int street(int,int,int)", "int streetOf(int,int)", "int hole(int,int)", "int of(int,int)",
        "int set(int,int,int)", "int turn(int,int)", "int as(int,int)", "int fill(int,int)", "int next()",
        "int weeks(int)", "int now(int)", "int on(int,int,int)", "int worse(int)", "int cost(int)", "int filled(int)",
        "int breaks(int)", "int how(int)", "int ring(int)", "int men(int,int)", "int budget(int,int)",
        "int kind(int,int)", "int let(int)", "int worst(int)", "int feed(int,int)", "int wipe()", "int text()",
        "int sheet(int,int,int)", "long write(int,int,long)", "int copy(int,int,int,int,int)", "int lays(int)",
        "int book(int,int)", "int read(int,int)", "int image()", "int undo()", "int tear()", "int count(int)",
        "int status(int)"};
    private static final String[] FORBIDDEN = {
        "\\b(throw|throws|try|catch|finally|synchronized|assert|import|package|protected|abstract)\\b",
        "->", "::", "\\bExact\\b", "\\b(HashMap|Map|Set|Object|Random|Thread|Scanner)\\b", "\"\\s*\\+|\\+\\s*\"",
        "\\b(double|float)\\b", "@"};

    private static int wrong = 0;

    private static void fault(String what) {
        wrong++;
        System.out.println(what);
    }

    public static void main(String[] args) throws IOException {
        face();
        fields();
        source(withoutComments(Files.readString(SOURCE)));
        System.out.println(wrong == 0 ? "the language is kept to" : wrong + " faults");
        if (wrong != 0) {
            System.exit(1);
        }
    }

    private static String told(Method m) {
        List<String> types = new ArrayList<>();
        for (Class<?> type : m.getParameterTypes()) {
            types.add(type.getName());
        }
        return m.getReturnType().getName() + " " + m.getName() + "(" + String.join(",", types) + ")";
    }

    /** Rule 1. */
    private static void face() {
        int modifiers = HoleFills.class.getModifiers();
        if (!Modifier.isPublic(modifiers) || !Modifier.isFinal(modifiers)) {
            fault("the class is not public and final");
        }
        Constructor<?>[] made = HoleFills.class.getDeclaredConstructors();
        if (made.length != 1 || made[0].getParameterCount() != 0 || !Modifier.isPublic(made[0].getModifiers())) {
            fault("there is not just one constructor, public and without arguments");
        }
        Set<String> face = new TreeSet<>();
        Set<String> names = new TreeSet<>();
        for (Method m : HoleFills.class.getDeclaredMethods()) {
            if (Modifier.isPublic(m.getModifiers())) {
                face.add(told(m));
                names.add(m.getName());
            }
        }
        if (!face.equals(Set.of(FACE))) {
            fault("another face: " + face);
        }
        for (Method m : HoleFills.class.getDeclaredMethods()) {
            if (!Modifier.isPublic(m.getModifiers()) && (hidden(m) || names.contains(m.getName()))) {
                fault("not private, or with a public name: " + m);
            }
        }
        for (Class<?> inside : HoleFills.class.getDeclaredClasses()) {
            if (!Modifier.isStatic(inside.getModifiers()) || Modifier.isPublic(inside.getModifiers())) {
                fault("not static, or public: " + inside);
            }
            for (Method m : inside.getDeclaredMethods()) {
                if (names.contains(m.getName())) {
                    fault("with a public name: " + m);
                }
            }
        }
    }

    private static boolean hidden(Member m) {
        return !Modifier.isPrivate(m.getModifiers());
    }

    /** Rules 1, 5 and 11. */
    private static void fields() {
        List<Class<?>> all = new ArrayList<>(List.of(HoleFills.class.getDeclaredClasses()));
        for (Field f : HoleFills.class.getDeclaredFields()) {
            if (hidden(f)) {
                fault("not private: " + f);
            }
        }
        all.add(HoleFills.class);
        if (all.size() > 12) {
            fault("more than twelve classes");
        }
        for (Class<?> c : all) {
            int own = 0;
            for (Field f : c.getDeclaredFields()) {
                if (!Modifier.isStatic(f.getModifiers())) {
                    own++;
                } else if (!Modifier.isFinal(f.getModifiers())) {
                    fault("static and not final: " + f);
                }
            }
            if (own > 20) {
                fault("more than twenty fields: " + c);
            }
        }
    }

    private static String withoutComments(String source) {
        return Pattern.compile("/\\*.*?\\*/", Pattern.DOTALL).matcher(source).replaceAll("").replaceAll("//[^\n]*", "");
    }

    /** Rules 3, 4, 6, 11 and 12. */
    private static void source(String source) {
        for (String pattern : FORBIDDEN) {
            Matcher m = Pattern.compile(pattern).matcher(source);
            while (m.find()) {
                fault("not of the language: " + m.group());
            }
        }
        int deepestMethod = 0;
        int since = 0;
        for (String line : source.split("\n")) {
            since = line.matches("( {4}| {8})[a-zA-Z].*\\) \\{") ? 0 : since + 1;
            deepestMethod = Math.max(deepestMethod, line.matches("( {4}| {8})\\}") ? since : 0);
            if (line.matches(" {12}.*\\bnew\\b.*")) {
                makesSomething(line);
            }
        }
        if (deepestMethod > 60) {
            fault("a method of " + deepestMethod + " lines");
        }
    }

    /** Rows are made once with an object: only its constructor makes any in its lines. */
    private static void makesSomething(String line) {
        if (!line.trim().equals("sheets[s] = new Sheet();")) {
            fault("made in a call: " + line.trim());
        }
    }
}
