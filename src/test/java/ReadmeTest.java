import java.io.IOException;
import java.lang.reflect.Method;
import java.lang.reflect.Modifier;
import java.nio.file.Files;
import java.nio.file.Path;
import java.util.ArrayList;
import java.util.HashMap;
import java.util.List;
import java.util.Map;
import java.util.Set;
import java.util.TreeSet;
import java.util.regex.Matcher;
import java.util.regex.Pattern;

/** What README.md says of calls and answers is so: its example, its codes, its calls and their refusals. */
public final class ReadmeTest {
    private static final String FIRST_LINE = "DispenseCabinet x = new DispenseCabinet();";
    private static final Pattern LINE = Pattern.compile("(?:int (\\w+) = )?x\\.(\\w+)\\((.*)\\); +// (-?\\d+): .+");
    private static final Pattern CODE = Pattern.compile("(?m)^\\| `([A-Z]+)` \\| (-\\d+) \\|");
    private static final Pattern CALL = Pattern.compile("(?m)^\\| `(\\w+)\\(([^)]*)\\)` \\|.*\\| ([^|]+) \\|$");
    private static final Pattern REFUSAL = Pattern.compile("\\b(?:BAD|NOBODY|ROLE|STEP|WITNESS|ORDER|SHORT|FULL|LOCKED|WRONG)\\b");
    private static final Check CHECK = new Check();

    public static void main(String[] args) throws Exception {
        String readme = Files.readString(Path.of("README.md"));
        example(readme);
        codes(readme);
        calls(readme);
        CHECK.end();
    }

    private static void example(String readme) throws Exception {
        int from = readme.indexOf("```java\n") + 8;
        String[] lines = readme.substring(from, readme.indexOf("```", from)).split("\n");
        CHECK.holds("the first line makes x", lines[0].equals(FIRST_LINE));
        DispenseCabinet x = new DispenseCabinet();
        Map<String, Integer> names = new HashMap<>();
        for (int i = 1; i < lines.length; i++) {
            Matcher line = LINE.matcher(lines[i]);
            boolean isCall = line.matches();
            CHECK.holds("a call with its answer: " + lines[i], isCall || lines[i].isEmpty());
            if (isCall) {
                int answer = call(x, line.group(2), line.group(3), names);
                CHECK.due(lines[i], answer, Integer.parseInt(line.group(4)));
                if (line.group(1) != null) {
                    names.put(line.group(1), answer);
                }
            }
        }
    }

    private static int call(DispenseCabinet x, String name, String arguments, Map<String, Integer> names) throws Exception {
        String[] texts = arguments.isEmpty() ? new String[0] : arguments.split(", ");
        Object[] values = new Object[texts.length];
        for (int i = 0; i < texts.length; i++) {
            values[i] = value(texts[i], names);
        }
        return (int) method(name).invoke(x, values);
    }

    private static Object value(String text, Map<String, Integer> names) {
        if (text.equals("true") || text.equals("false")) {
            return text.equals("true");
        }
        return names.containsKey(text) ? names.get(text) : Integer.valueOf(text);
    }

    private static void codes(String readme) throws Exception {
        List<String> inOrder = new ArrayList<>();
        Matcher row = CODE.matcher(readme);
        while (row.find()) {
            inOrder.add(row.group(1));
            int value = DispenseCabinet.class.getField(row.group(1)).getInt(null);
            CHECK.due(row.group(1), Integer.parseInt(row.group(2)), value);
        }
        CHECK.holds("codes in the order of the document: " + inOrder, inOrder.equals(codesOf(terms())));
    }

    /** The document tells the codes in their order, from 'BAD:' to 'WRONG', at the end of its terms. */
    private static String terms() throws IOException {
        String doc = Files.readString(Path.of("../shared/DOC.md"));
        return doc.substring(doc.indexOf("BAD: an argument"), doc.indexOf("(while a user is LOCKED"));
    }

    private static void calls(String readme) throws Exception {
        Set<String> missing = new TreeSet<>();
        for (Method method : DispenseCabinet.class.getDeclaredMethods()) {
            if (Modifier.isPublic(method.getModifiers())) {
                missing.add(method.getName());
            }
        }
        String doc = Files.readString(Path.of("../shared/DOC.md"));
        Matcher row = CALL.matcher(readme);
        while (row.find()) {
            String name = row.group(1);
            CHECK.holds(name + " stands there once", missing.remove(name));
            int named = row.group(2).isEmpty() ? 0 : row.group(2).split(", ").length;
            CHECK.due("parameters of " + name, named, method(name).getParameterCount());
            List<String> due = codesOf(promise(doc, name));
            CHECK.holds("refusals of " + name + " are " + due, codesOf(row.group(3)).equals(due));
        }
        CHECK.holds("calls that README.md does not tell: " + missing, missing.isEmpty());
    }

    private static String promise(String doc, String name) {
        int from = doc.indexOf("`int " + name + "(");
        return doc.substring(from, doc.indexOf("\n\n", from));
    }

    /** The codes that a text names, each once, in the order of the text. */
    private static List<String> codesOf(String text) {
        List<String> codes = new ArrayList<>();
        Matcher matcher = REFUSAL.matcher(text);
        while (matcher.find()) {
            if (!codes.contains(matcher.group())) {
                codes.add(matcher.group());
            }
        }
        return codes;
    }

    private static Method method(String name) {
        for (Method method : DispenseCabinet.class.getDeclaredMethods()) {
            if (Modifier.isPublic(method.getModifiers()) && method.getName().equals(name)) {
                return method;
            }
        }
        throw new IllegalArgumentException(name);
    }
}
