import java.io.IOException;
import java.lang.reflect.Constructor;
import java.lang.reflect.Field;
import java.lang.reflect.Method;
import java.lang.reflect.Modifier;
import java.nio.file.Files;
import java.nio.file.Path;
import java.util.HashSet;
import java.util.List;
import java.util.Set;
import java.util.TreeSet;
import java.util.regex.Matcher;
import java.util.regex.Pattern;

/** LANGUAGE.md, as far as a look at the class and its text can tell; it is run from the project's folder. */
final class LanguageTest {
    private static final Due DUE = new Due("LanguageTest");
    private static final Path SOURCE = Path.of("src/main/java/SamePlace.java");
    private static final List<String> FACE = List.of(
            "int set(int,int,int)", "int way(int,int)", "int point(int,int,int)", "int clear(int)", "int told(int,int)",
            "int feed(int)", "int text()", "int force(int)", "int at(int,int)", "int asks(int,int,int)",
            "int length(int,int,int)", "int mean(int,int)", "int half(int,int)", "int meet(int,int,int)",
            "long when(int,int,int)", "int sure(int,int)", "int apart(int,int,int)", "int fits(int)",
            "int wrong(int,int,int)", "int posts(int)", "int beads(int)", "int heat(int)", "int drawn(int,int,int)",
            "long chance(int,int,int,int)", "int image()", "int back()", "int count(int)", "int sheet(int,int,int)",
            "int cell(int,int,int)", "int copy(int,int,int,int,int)", "int points(int,int,int,int)", "int taken(int,int)");

    public static void main(String[] args) throws IOException {
        face();
        inside();
        String text = Files.readString(SOURCE);
        words(text);
        methods(text);
        DUE.finish();
    }

    private static void face() {
        Set<String> methods = new TreeSet<>();
        for (Method m : SamePlace.class.getDeclaredMethods()) {
            if (!Modifier.isPrivate(m.getModifiers())) {
                String signature = m.toString().replaceAll("^public (\\w+) SamePlace\\.", "$1 ");
                methods.add(signature);
            }
        }
        DUE.holds("rule 1: the methods " + methods, methods.equals(new TreeSet<>(FACE)));
        Set<String> fields = new TreeSet<>();
        for (Field f : SamePlace.class.getDeclaredFields()) {
            if (!Modifier.isPrivate(f.getModifiers())) {
                fields.add(f.toString());
            }
        }
        DUE.holds("rule 1: the constants " + fields, fields.equals(Set.of(
                "public static final int SamePlace.NONE", "public static final int SamePlace.BAD",
                "public static final int SamePlace.STATE", "public static final int SamePlace.FULL",
                "public static final long SamePlace.NO")));
        Constructor<?>[] made = SamePlace.class.getDeclaredConstructors();
        DUE.holds("rule 1: one constructor", made.length == 1 && made[0].toString().equals("public SamePlace()"));
        DUE.holds("rule 1: public and final", SamePlace.class.getModifiers() == (Modifier.PUBLIC | Modifier.FINAL));
    }

    private static void inside() {
        Class<?>[] classes = SamePlace.class.getDeclaredClasses();
        DUE.holds("rule 11: at most twelve classes", classes.length < 12);
        fields(SamePlace.class);
        Set<String> publicNames = new HashSet<>();
        FACE.forEach(f -> publicNames.add(f.replaceAll("^\\w+ |\\(.*", "")));
        for (Class<?> c : classes) {
            DUE.holds("rule 2: " + c + " is static", Modifier.isStatic(c.getModifiers()));
            DUE.holds("rule 1: " + c + " is not public",
                    !Modifier.isPublic(c.getModifiers()) && !Modifier.isProtected(c.getModifiers()));
            fields(c);
            for (Method m : c.getDeclaredMethods()) {
                DUE.holds("rule 1: the name of " + m, !publicNames.contains(m.getName()));
            }
        }
        for (Method m : SamePlace.class.getDeclaredMethods()) {
            DUE.holds("rule 1: the name of " + m,
                    !Modifier.isPrivate(m.getModifiers()) || !publicNames.contains(m.getName()));
            DUE.holds("rule 11: parameters of " + m, m.getParameterCount() <= 7);
        }
    }

    private static void fields(Class<?> c) {
        int many = 0;
        for (Field f : c.getDeclaredFields()) {
            int is = f.getModifiers();
            many += Modifier.isStatic(is) ? 0 : 1;
            DUE.holds("rule 5: " + f, !Modifier.isStatic(is) || Modifier.isFinal(is));
            DUE.holds("rule 3: " + f, isType(f.getType()));
        }
        DUE.holds("rule 11: " + many + " fields of " + c, many <= 20);
    }

    private static boolean isType(Class<?> t) {
        Class<?> of = t.isArray() ? t.getComponentType() : t;
        return of.isPrimitive() || of == String.class || of.getEnclosingClass() == SamePlace.class;
    }

    private static void words(String text) {
        String code = text.replaceAll("(?s)/\\*.*?\\*/", " ").replaceAll("//[^\n]*", " ").replaceAll("\"[^\"]*\"", "TEXT");
        DUE.holds("signs 1 to 127 alone", text.chars().allMatch(c -> c >= 10 && c < 127));
        for (String word : List.of("throw", "throws", "try", "catch", "finally", "synchronized", "assert", "package",
                "import", "native", "volatile", "transient", "var", "yield", "Object", "System.out", "Exception")) {
            DUE.holds("rules 4, 6: no " + word, !Pattern.compile("\\b" + Pattern.quote(word) + "\\b").matcher(code).find());
        }
        DUE.holds("rule 2: no lambda", !code.contains("->"));
        DUE.holds("rule 2: no method reference", !code.contains("::"));
        DUE.holds("rule 4: none of Exact", !Pattern.compile("Exact\\b").matcher(code).find());
        Matcher calls = Pattern.compile("\\b(Math|Integer|Long|System)\\.(\\w+)").matcher(code);
        Set<String> used = new TreeSet<>();
        while (calls.find()) {
            used.add(calls.group());
        }
        used.removeAll(Set.of("Math.abs", "Math.max", "Math.min", "Integer.bitCount", "System.arraycopy"));
        DUE.holds("rule 4: only these of the library, not " + used, used.isEmpty());
        DUE.holds("rule 12: no array outside of fields' initialisers",
                Pattern.compile("^(?!.* (private|static) ).*new \\w+\\[", Pattern.MULTILINE).matcher(code).results().count() == 0);
    }

    private static void methods(String text) {
        String[] lines = text.split("\n");
        int start = -1;
        String end = "";
        for (int i = 0; i < lines.length; i++) {
            Matcher head = Pattern.compile("^( +)(?!else|for|if|while|switch|do\\b)[\\w\\[\\] ]+\\(.*\\) \\{$").matcher(lines[i]);
            if (start < 0 && head.matches()) {
                start = i;
                end = head.group(1) + "}";
            } else if (start >= 0 && lines[i].equals(end)) {
                DUE.holds("rule 11: length of" + lines[start], i - start <= 60);
                start = -1;
            }
        }
        DUE.holds("each method ends", start < 0);
    }

    private LanguageTest() {
    }
}
