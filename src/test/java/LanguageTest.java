import java.lang.reflect.Constructor;
import java.lang.reflect.Field;
import java.lang.reflect.Method;
import java.lang.reflect.Modifier;
import java.nio.charset.StandardCharsets;
import java.nio.file.Files;
import java.nio.file.Path;
import java.util.ArrayList;
import java.util.List;
import java.util.Set;
import java.util.TreeSet;
import java.util.regex.Matcher;
import java.util.regex.Pattern;

/** The rules of LANGUAGE.md that can be seen from the text of the class and from what was built of it. */
public final class LanguageTest {
    private static final Due due = new Due();

    public static void main(String[] args) throws Exception {
        byte[] bytes = Files.readAllBytes(Path.of("src/main/java/BitOff.java"));
        for (byte b : bytes) due.is("a sign of the file", b >= 1 ? 1 : 0, 1);
        String text = new String(bytes, StandardCharsets.ISO_8859_1);
        String code = text.replaceAll("(?s)/\\*.*?\\*/", "").replaceAll("//[^\n]*", "");
        words(code);
        String document = Files.readString(Path.of("../shared/DOC.md"));
        face(document);
        constants(document);
        saidAhead(document, text);
        classes();
        lengths(code);
        due.end();
    }

    private static void words(String code) {
        String[] forbidden = {"throw", "try", "catch", "finally", "synchronized", "assert", "volatile", "transient",
            "native", "strictfp", "package", "protected", "equals", "hashCode", "Object", "Class", "Thread", "System\\.(?!arraycopy)",
            "Random", "Exception", "Error", "var", "yield", "Exact", "format", "valueOf", "print", "println"};
        for (String word : forbidden) {
            due.is("6: no " + word, count("\\b" + word + (word.endsWith(")") ? "" : "\\b"), code), 0);
        }
        due.is("2: no lambda", count("->", code), 0);
        due.is("2: no method reference", count("::", code), 0);
        due.is("4: no constant of the library", count("\\b(Integer|Math|Short|Byte|Character)\\.[A-Z]|(?<!NO = )\\bLong\\.[A-Z]", code), 0);
        due.is("4: no import but Arrays, lists", count("import (?!java\\.util\\.(Arrays|ArrayList|List);)", code), 0);
        due.is("9: no loop without a counter", count("\\bwhile\\b|for \\(;;|for \\([^;]*; *;", code), 0);
        due.is("4: texts of signs 1 to 127", count("\\\\u", code), 0);
        due.is("10: no joining by +", count("\" *\\+|\\+ *\"", code), 0);
    }

    private static int count(String pattern, String code) {
        Matcher matcher = Pattern.compile(pattern).matcher(code);
        int n = 0;
        while (matcher.find()) {
            n++;
            System.out.println("found " + matcher.group());
        }
        return n;
    }

    /** "int side(int,int,int)" and its like, of the document and of the class. */
    private static void face(String document) {
        String told = document.substring(document.indexOf("```java"), document.indexOf("## Terms"));
        Set<String> wanted = new TreeSet<>();
        Matcher line = Pattern.compile("public (int|long) (\\w+)\\(([^)]*)\\);").matcher(told);
        while (line.find()) {
            wanted.add(line.group(1) + " " + line.group(2) + "(" + line.group(3).replaceAll(" \\w+(,|$)", "$1").replace(" ", "") + ")");
        }
        due.is("1: calls in the document", wanted.size(), 43);
        Set<String> here = new TreeSet<>();
        for (Method method : BitOff.class.getDeclaredMethods()) {
            if (Modifier.isPrivate(method.getModifiers()) || method.isSynthetic()) continue;
            due.is("1: public " + method, method.getModifiers(), Modifier.PUBLIC);
            List<String> types = new ArrayList<>();
            for (Class<?> type : method.getParameterTypes()) types.add(type.getName());
            here.add(method.getReturnType() + " " + method.getName() + "(" + String.join(",", types) + ")");
        }
        for (String call : wanted) due.is("1: has " + call, here.contains(call) ? 1 : 0, 1);
        for (String call : here) due.is("1: is told " + call, wanted.contains(call) ? 1 : 0, 1);
        due.is("1: public and final", BitOff.class.getModifiers(), Modifier.PUBLIC | Modifier.FINAL);
        for (Constructor<?> made : BitOff.class.getDeclaredConstructors()) {
            due.is("1: one constructor", made.getModifiers() * 10 + made.getParameterCount(), Modifier.PUBLIC * 10);
        }
        Set<String> constants = Set.of("NONE", "BAD", "STATE", "FULL", "NO");
        for (Field field : BitOff.class.getDeclaredFields()) {
            boolean isPublic = Modifier.isPublic(field.getModifiers());
            due.is("1: constant " + field.getName(), isPublic ? 1 : 0, constants.contains(field.getName()) ? 1 : 0);
            due.is("1: private " + field.getName(), isPublic || Modifier.isPrivate(field.getModifiers()) ? 1 : 0, 1);
        }
    }

    /** "int NONE = -1" and its like: public, static, final, of the type that is told. */
    private static void constants(String document) throws Exception {
        int many = 0;
        Matcher line = Pattern.compile("public static final (int|long) ([^;]*);").matcher(document);
        while (line.find()) {
            for (String one : line.group(2).split(", ")) {
                String name = one.substring(0, one.indexOf(' '));
                String value = one.substring(one.indexOf("= ") + 2);
                Field field = BitOff.class.getField(name);
                due.is("1: type of " + name, field.getType().getName().equals(line.group(1)) ? 1 : 0, 1);
                due.is("1: modifiers of " + name, field.getModifiers(), Modifier.PUBLIC | Modifier.STATIC | Modifier.FINAL);
                long want = value.equals("Long.MIN_VALUE") ? Long.MIN_VALUE : Long.parseLong(value);
                due.is("1: value of " + name, ((Number) field.get(null)).longValue(), want);
                many++;
            }
        }
        due.is("1: constants in the document", many, BitOff.class.getFields().length);
    }

    /** What the interface says ahead of its calls, and all calls in the document's order. */
    private static void saidAhead(String document, String text) {
        int at = 0;
        int said = 0;
        Matcher line = Pattern.compile("Ahead of the calls ([^\n]*) the interface says: ([^\n]*)\\.\n").matcher(document);
        while (line.find()) {
            at = text.indexOf("\n    // " + line.group(2) + "\n", at);
            due.is("1: says " + line.group(2), at >= 0 ? 1 : 0, 1);
            Matcher call = Pattern.compile("`(\\w+)`").matcher(line.group(1));
            while (call.find()) {
                Matcher method = Pattern.compile("\n    public (int|long) " + call.group(1) + "\\(").matcher(text);
                boolean isNext = at >= 0 && method.find(at);
                due.is("1: " + call.group(1) + " behind what is said", isNext ? 1 : 0, 1);
                at = isNext ? method.start() : at;
                said++;
            }
        }
        due.is("1: calls in the document", said, 43);
    }

    private static void classes() {
        List<Class<?>> all = new ArrayList<>(List.of(BitOff.class.getDeclaredClasses()));
        due.is("11: some twelve classes", all.size() <= 11 ? 1 : 0, 1);
        Set<String> faceNames = new TreeSet<>();
        for (Method method : BitOff.class.getMethods()) faceNames.add(method.getName());
        for (Class<?> inside : all) {
            due.is("2: static " + inside, Modifier.isStatic(inside.getModifiers()) ? 1 : 0, 1);
            due.is("1: not public " + inside, Modifier.isPublic(inside.getModifiers()) ? 1 : 0, 0);
            due.is("2: nothing inside " + inside, inside.getDeclaredClasses().length, 0);
        }
        all.add(BitOff.class);
        for (Class<?> one : all) {
            int fields = 0;
            for (Field field : one.getDeclaredFields()) {
                if (field.isSynthetic()) continue;
                if (!Modifier.isStatic(field.getModifiers())) fields++;
                else due.is("5: final " + field, Modifier.isFinal(field.getModifiers()) ? 1 : 0, 1);
            }
            due.is("11: some twenty fields of " + one, fields <= 20 ? 1 : 0, 1);
            for (Method method : one.getDeclaredMethods()) {
                due.is("11: seven parameters of " + method, method.getParameterCount() <= 7 ? 1 : 0, 1);
                if (!Modifier.isPublic(method.getModifiers())) {
                    due.is("1: a name of its own " + method, faceNames.contains(method.getName()) ? 1 : 0, 0);
                }
            }
        }
    }

    /** From the line that opens a method to the one with its closing brace, by how far they stand in. */
    private static void lengths(String code) {
        String[] lines = code.split("\n");
        Pattern opens = Pattern.compile("( +)(public|private)[^=;]*\\)? \\{");
        for (int i = 0; i < lines.length; i++) {
            Matcher matcher = opens.matcher(lines[i]);
            if (!matcher.matches() || lines[i].contains(" class ")) continue;
            int end = i;
            while (!lines[end].equals(matcher.group(1) + "}")) end++;
            due.is("11: sixty lines of " + lines[i].trim(), end - i < 60 ? 1 : 0, 1);
        }
    }
}
