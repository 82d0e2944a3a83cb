import java.io.IOException;
import java.lang.reflect.Field;
import java.lang.reflect.Method;
import java.lang.reflect.Modifier;
import java.nio.file.Files;
import java.nio.file.Path;
import java.util.List;
import java.util.Set;
import java.util.TreeSet;
import java.util.regex.Matcher;
import java.util.regex.Pattern;

/** The public face of the document, and those rules of LANGUAGE.md that can be seen from outside. */
public final class LanguageTest {
    private static final Checks C = new Checks();
    public static void main(String[] args) throws IOException, ReflectiveOperationException {
        Document document = new Document();
        face(document);
        promisesBearTheFace(document);
        constants(document);
        groups(document);
        classesInside();
        words();
        C.end("LanguageTest");
    }

    private static String faceOf(Method m) {
        StringBuilder s = new StringBuilder().append(m.getReturnType()).append(' ').append(m.getName()).append('(');
        for (Class<?> p : m.getParameterTypes()) {
            s.append(s.charAt(s.length() - 1) == '(' ? "" : ",").append(p.getName());
        }
        return s.append(')').toString();
    }

    /** The methods of the document's face, as faceOf tells them. */
    private static Set<String> methodsOf(Document document) {
        Set<String> methods = new TreeSet<>();
        for (String line : document.face()) {
            if (line.matches("public (int|long) \\w+\\(.*\\);")) {
                methods.add(line.replaceAll("^public |;$", "").replaceAll(" \\w+(?=[,)])", "").replace(", ", ","));
            }
        }
        return methods;
    }

    private static void face(Document document) {
        Set<String> got = new TreeSet<>();
        Set<String> names = new TreeSet<>();
        for (Method m : LoveParts.class.getDeclaredMethods()) {
            if (Modifier.isPublic(m.getModifiers())) {
                got.add(faceOf(m));
                names.add(m.getName());
                C.isTrue(m.getName() + " is not static", !Modifier.isStatic(m.getModifiers()));
                C.due(m.getName() + " declares no exception", m.getExceptionTypes().length, 0);
            }
        }
        C.due("methods of the document", methodsOf(document).size(), Document.PROMISES - 1);
        C.isTrue("the face: " + got, got.equals(methodsOf(document)));
        for (Method m : LoveParts.class.getDeclaredMethods()) {
            boolean open = Modifier.isPublic(m.getModifiers());
            C.isTrue(m.getName() + " is public or private", open || Modifier.isPrivate(m.getModifiers()) || m.isSynthetic());
            C.isTrue(m.getName() + " bears no public name", open || !names.contains(m.getName()));
        }
        C.isTrue("public and final", Modifier.isPublic(LoveParts.class.getModifiers())
            && Modifier.isFinal(LoveParts.class.getModifiers()));
        C.due("one constructor", LoveParts.class.getDeclaredConstructors().length, 1);
        C.due("it is public, without arguments", LoveParts.class.getConstructors()[0].getParameterCount(), 0);
    }

    /** Each promise tells one line of the face, in the order of the face. */
    private static void promisesBearTheFace(Document document) {
        List<String> face = document.face();
        C.due("constants, constructor and methods", face.size(), Document.PROMISES + 1);
        for (int n = 1; n <= Document.PROMISES && n < face.size(); n++) {
            C.isTrue("promise " + n + " tells " + face.get(n),
                face.get(n).equals("public " + document.signature(n) + ";"));
        }
    }

    private static void constants(Document document) throws ReflectiveOperationException {
        Matcher told = Pattern.compile("([A-Z]+) = (-[0-9]+)").matcher(document.face().get(0));
        Set<String> due = new TreeSet<>();
        while (told.find()) {
            due.add(told.group(1));
            C.due(told.group(1), LoveParts.class.getField(told.group(1)).getInt(null), Integer.parseInt(told.group(2)));
        }
        Set<String> constants = new TreeSet<>();
        for (Field f : LoveParts.class.getDeclaredFields()) {
            if (Modifier.isPublic(f.getModifiers())) {
                constants.add(f.getName());
                C.isTrue(f.getName() + " is a constant int", f.getType() == int.class
                    && Modifier.isStatic(f.getModifiers()) && Modifier.isFinal(f.getModifiers()));
            } else {
                C.isTrue(f.getName() + " is private", Modifier.isPrivate(f.getModifiers()));
            }
        }
        C.due("four constants", due.size(), 4);
        C.isTrue("the constants", constants.equals(due));
    }

    /** The calls stand in the document's order, and ahead of each group what the interface says there. */
    private static void groups(Document document) throws IOException {
        String source = Files.readString(Path.of("src/main/java/LoveParts.java"));
        int at = 0;
        int calls = 0;
        for (String[] group : document.groups()) {
            int said = source.indexOf("// " + group[1] + "\n", at);
            C.isTrue(group[1], said > at);
            at = Math.max(said, at);
            for (String call : group[0].split("\\s+")) {
                Matcher m = Pattern.compile("public (int|long) " + call + "\\(").matcher(source);
                boolean behind = m.find(at);
                C.isTrue(call + " behind " + group[1], behind);
                at = behind ? m.start() : at;
                calls++;
            }
        }
        C.due("calls in groups", calls, Document.PROMISES - 1);
    }

    private static void classesInside() {
        Class<?>[] inside = LoveParts.class.getDeclaredClasses();
        C.isTrue("some twelve classes", inside.length <= 12);
        for (Class<?> c : inside) {
            C.isTrue(c + " is static", Modifier.isStatic(c.getModifiers()));
            C.isTrue(c + " is not public", !Modifier.isPublic(c.getModifiers()));
            fewFields(c);
        }
        fewFields(LoveParts.class);
    }

    private static void fewFields(Class<?> c) {
        int fields = 0;
        for (Field f : c.getDeclaredFields()) {
            if (Modifier.isStatic(f.getModifiers())) {
                C.isTrue(f + " is final", Modifier.isFinal(f.getModifiers()));
            } else {
                fields++;
            }
        }
        C.isTrue(c + " has some twenty fields", fields <= 20);
        for (Method m : c.getDeclaredMethods()) {
            C.isTrue(m + " takes seven at most", m.getParameterCount() <= 7);
        }
    }

    private static void words() throws IOException {
        String source = Files.readString(Path.of("src/main/java/LoveParts.java"));
        String code = source.replaceAll("(?s)/\\*.*?\\*/", "").replaceAll("//[^\n]*", "").replaceAll("'.'", "0");
        String[] never = {"throw", "throws", "try", "catch", "finally", "synchronized", "assert", "import", "package",
            "volatile", "native", "transient", "strictfp", "equals", "hashCode", "toString", "Object", "System\\.(?!arraycopy)",
            "\\w+Exact", "Thread", "Random", "Class"};
        for (String word : never) {
            C.isTrue("no " + word, !Pattern.compile("\\b" + word).matcher(code).find());
        }
        for (String sign : new String[] {"->", "::", "@", "\"", "[][]"}) {
            C.isTrue("no " + sign, !code.contains(sign));
        }
        shortMethods(code);
    }

    /** A method of a class ends with the brace that stands as far in as it begins. */
    private static void shortMethods(String code) {
        String[] lines = code.split("\n", -1);
        for (int i = 0; i < lines.length; i++) {
            if (lines[i].matches("( {4}| {8})\\S.*\\) \\{") && !lines[i].matches(".*\\b(if|for|while|switch)\\b.*")) {
                String end = lines[i].replaceAll("\\S.*", "") + "}";
                int j = i;
                while (j < lines.length - 1 && !lines[j].equals(end)) {
                    j++;
                }
                C.isTrue("a short method: " + lines[i], j - i < 60);
            }
        }
    }
}
