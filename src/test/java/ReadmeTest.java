import java.lang.reflect.Method;
import java.nio.file.Files;
import java.nio.file.Path;
import java.util.ArrayList;
import java.util.HashMap;
import java.util.List;
import java.util.Map;
import java.util.Set;
import java.util.TreeSet;
import java.util.regex.Matcher;
import java.util.regex.Pattern;
import java.util.stream.Stream;

/** What README.md says is so: its example, its tables beside the document's promises, its list of tests. */
public final class ReadmeTest {
    private static final Due due = new Due();

    public static void main(String[] args) throws Exception {
        String readme = Files.readString(Path.of("README.md"));
        String document = Files.readString(Path.of("../shared/DOC.md"));
        example(readme);
        tables(readme, document);
        constants(readme);
        tests(readme);
        due.end();
    }

    private static void example(String readme) throws Exception {
        int begin = readme.indexOf("```java\n") + 8;
        String[] lines = readme.substring(begin, readme.indexOf("```", begin)).split("\n");
        due.is("the example begins with a new object", lines[0].equals("BitOff x = new BitOff();") ? 1 : 0, 1);
        Pattern call = Pattern.compile("x\\.(\\w+)\\(([-\\d, ]*)\\); +// (-?\\d+): .+");
        Pattern text = Pattern.compile("for \\(char sign : \"([^\"]*)\"\\.toCharArray\\(\\)\\) x\\.feed\\(sign\\);");
        BitOff x = new BitOff();
        for (int i = 1; i < lines.length; i++) {
            Matcher fed = text.matcher(lines[i]);
            Matcher called = call.matcher(lines[i]);
            if (fed.matches()) {
                for (char sign : fed.group(1).toCharArray()) x.feed(sign);
            } else if (called.matches()) {
                due.is(lines[i], answer(x, called.group(1), called.group(2)), Long.parseLong(called.group(3)));
            } else {
                due.is("a line that is a call: " + lines[i], 0, 1);
            }
        }
    }

    private static long answer(BitOff x, String name, String told) throws Exception {
        String[] numbers = told.isEmpty() ? new String[0] : told.split(", ");
        for (Method method : BitOff.class.getMethods()) {
            if (!method.getName().equals(name) || method.getParameterCount() != numbers.length) continue;
            Object[] arguments = new Object[numbers.length];
            for (int i = 0; i < numbers.length; i++) {
                boolean isLong = method.getParameterTypes()[i] == long.class;
                if (isLong) arguments[i] = Long.parseLong(numbers[i]);
                else arguments[i] = Integer.parseInt(numbers[i]);
            }
            return ((Number) method.invoke(x, arguments)).longValue();
        }
        throw new IllegalStateException("no such call: " + name);
    }

    /** "NONE", "-5" and their like. */
    private static Set<String> refusals(String told) {
        Set<String> found = new TreeSet<>();
        Matcher matcher = Pattern.compile("\\b(NONE|BAD|STATE|FULL|NO|NOTHING|CAST|PLACE|SIZE)\\b|-\\d+").matcher(told);
        while (matcher.find()) found.add(matcher.group());
        return found;
    }

    /** The calls of the tables are those of the promises, in their order, with the refusals that these name. */
    private static void tables(String readme, String document) {
        List<String> promised = new ArrayList<>();
        Map<String, Set<String>> named = new HashMap<>();
        Matcher promise = Pattern.compile("\n`(?:int|long) (\\w+)\\(([^)]*)\\)`: ([^\n]*)").matcher(document);
        while (promise.find()) {
            String call = promise.group(1) + "(" + promise.group(2).replaceAll("(int|long) ", "") + ")";
            promised.add(call);
            named.put(call, refusals(promise.group(3)));
            // its -5 stands in the Terms
            if (call.equals("judge(tape, i)")) named.get(call).add("-5");
        }
        due.is("promises with a call", promised.size(), 43);
        List<String> told = new ArrayList<>();
        Matcher row = Pattern.compile("\n\\| `(\\w+\\([^)]*\\))` \\| ([^\n]*)").matcher(readme);
        while (row.find()) {
            told.add(row.group(1));
            Set<String> want = named.get(row.group(1));
            Set<String> got = refusals(row.group(2));
            due.is("told of " + row.group(1) + ": " + got + ", promised: " + want, got.equals(want) ? 1 : 0, 1);
        }
        due.is("the calls told: " + told, told.equals(promised) ? 1 : 0, 1);
    }

    private static void constants(String readme) throws Exception {
        int rows = 0;
        Matcher row = Pattern.compile("\n\\| (-\\d+) \\| `BitOff\\.(\\w+)` \\|").matcher(readme);
        while (row.find()) {
            long want = ((Number) BitOff.class.getField(row.group(2)).get(null)).longValue();
            due.is(row.group(2), Long.parseLong(row.group(1)), want);
            rows++;
        }
        due.is("constants told", rows, BitOff.class.getFields().length);
    }

    private static void tests(String readme) throws Exception {
        Set<String> told = new TreeSet<>();
        Matcher name = Pattern.compile("`(\\w+Test)`").matcher(readme);
        while (name.find()) told.add(name.group(1));
        Set<String> here = new TreeSet<>();
        try (Stream<Path> files = Files.list(Path.of("src/test/java"))) {
            files.map(file -> file.getFileName().toString())
                .filter(file -> file.endsWith("Test.java"))
                .forEach(file -> here.add(file.replace(".java", "")));
        }
        due.is("tests told " + told + ", here " + here, told.equals(here) ? 1 : 0, 1);
    }
}
