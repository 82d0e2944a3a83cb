import java.io.IOException;
import java.lang.reflect.Field;
import java.lang.reflect.Method;
import java.lang.reflect.Modifier;
import java.nio.file.Files;
import java.nio.file.Path;
import java.util.Arrays;
import java.util.Set;
import java.util.TreeSet;
import java.util.regex.Pattern;

/** The public face of the document, and those rules of LANGUAGE.md that can be seen from outside. */
public final class LanguageTest {
    private static final Checks C = new Checks();
    private static final String FACE = """
        int row(int,int,int)
        int set(int,int,int)
        int copy(int,int,int,int,int)
        int drop(int)
        int feed(int)
        int realm()
        int fault()
        int undo()
        int speak(int,int,int)
        int part()
        int rule(int)
        int months(int)
        int letter(int,int)
        int heir(int,int)
        int king(int)
        int share(int,int)
        int best(int,int)
        int rather()
        int trueRule()
        int order(int,int)
        int ahead(int,int)
        int down(int)
        int loves(int,int,int,int,int)
        int map(int,int)
        int who(int,int,int)
        long odds(int,int,int)
        int drawn(int,int,int)
        int image(int)
        int restore(int)
        int kind(int)
        int as(int,int)
        int ask(int,int)
        int trace(int)
        int count(int)
        int status()
        """;

    public static void main(String[] args) throws IOException {
        face();
        classesInside();
        words();
        C.end("LanguageTest");
    }

    private static String faceOf(Method m) {
        StringBuilder s = new StringBuilder().append(m.getReturnType()).append(' ').append(m.getName()).append('(');
        for (Class<?> p : m.getParameterTypes()) {
            s.append(s.charAt(s.length() - 1) == '(' ? "" : ",").append(p.getName());
        }
        return s.append(')').toString();
    }

    private static void face() {
        Set<String> due = new TreeSet<>(Arrays.asList(FACE.strip().split("\\s*\n\\s*")));
        Set<String> got = new TreeSet<>();
        Set<String> names = new TreeSet<>();
        for (Method m : LoveParts.class.getDeclaredMethods()) {
            if (Modifier.isPublic(m.getModifiers())) {
                got.add(faceOf(m));
                names.add(m.getName());
                C.isTrue(m.getName() + " is not static", !Modifier.isStatic(m.getModifiers()));
            }
        }
        C.isTrue("the face: " + got, got.equals(due));
        for (Method m : LoveParts.class.getDeclaredMethods()) {
            boolean open = Modifier.isPublic(m.getModifiers());
            C.isTrue(m.getName() + " is public or private", open || Modifier.isPrivate(m.getModifiers()) || m.isSynthetic());
            C.isTrue(m.getName() + " bears no public name", open || !names.contains(m.getName()));
        }
        Set<String> constants = new TreeSet<>();
        for (Field f : LoveParts.class.getDeclaredFields()) {
            if (Modifier.isPublic(f.getModifiers())) {
                constants.add(f.getName());
                C.isTrue(f.getName() + " is a constant int", f.getType() == int.class
                    && Modifier.isStatic(f.getModifiers()) && Modifier.isFinal(f.getModifiers()));
            } else {
                C.isTrue(f.getName() + " is private", Modifier.isPrivate(f.getModifiers()));
            }
        }
        C.isTrue("the constants", constants.equals(Set.of("NONE", "BAD", "STATE", "FULL")));
        C.isTrue("public and final", Modifier.isPublic(LoveParts.class.getModifiers())
            && Modifier.isFinal(LoveParts.class.getModifiers()));
        C.due("one constructor", LoveParts.class.getDeclaredConstructors().length, 1);
    }

    private static void classesInside() {
        Class<?>[] inside = LoveParts.class.getDeclaredClasses();
        C.isTrue("some twelve classes", inside.length <= 12);
        for (Class<?> c : inside) {
            C.isTrue(c + " is static", Modifier.isStatic(c.getModifiers()));
            C.isTrue(c + " is not public", !Modifier.isPublic(c.getModifiers()));
            fewFields(c);
        }
        fewFields(LoveParts.class);
    }

    private static void fewFields(Class<?> c) {
        int fields = 0;
        for (Field f : c.getDeclaredFields()) {
            if (Modifier.isStatic(f.getModifiers())) {
                C.isTrue(f + " is final", Modifier.isFinal(f.getModifiers()));
            } else {
                fields++;
            }
        }
        C.isTrue(c + " has some twenty fields", fields <= 20);
        for (Method m : c.getDeclaredMethods()) {
            C.isTrue(m + " takes seven at most", m.getParameterCount() <= 7);
        }
    }

    private static void words() throws IOException {
        String source = Files.readString(Path.of("src/main/java/LoveParts.java"));
        String code = source.replaceAll("(?s)/\\*.*?\\*/", "").replaceAll("//[^\n]*", "").replaceAll("'.'", "0");
        String[] never = {"throw", "throws", "try", "catch", "finally", "synchronized", "assert", "import", "package",
            "volatile", "native", "transient", "strictfp", "equals", "hashCode", "toString", "Object", "System\\.(?!arraycopy)",
            "\\w+Exact", "Thread", "Random", "Class"};
        for (String word : never) {
            C.isTrue("no " + word, !Pattern.compile("\\b" + word).matcher(code).find());
        }
        for (String sign : new String[] {"->", "::", "@", "\"", "[][]"}) {
            C.isTrue("no " + sign, !code.contains(sign));
        }
        shortMethods(code);
    }

    /** A method of a class ends with the brace that stands as far in as it begins. */
    private static void shortMethods(String code) {
        String[] lines = code.split("\n", -1);
        for (int i = 0; i < lines.length; i++) {
            if (lines[i].matches("( {4}| {8})\\S.*\\) \\{") && !lines[i].matches(".*\\b(if|for|while|switch)\\b.*")) {
                String end = lines[i].replaceAll("\\S.*", "") + "}";
                int j = i;
                while (j < lines.length - 1 && !lines[j].equals(end)) {
                    j++;
                }
                C.isTrue("a short method: " + lines[i], j - i < 60);
            }
        }
    }
}
