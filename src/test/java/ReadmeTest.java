import java.io.IOException;
import java.lang.reflect.Field;
import java.lang.reflect.Method;
import java.lang.reflect.Modifier;
import java.nio.file.Files;
import java.nio.file.Path;
import java.util.ArrayList;
import java.util.Arrays;
import java.util.HashSet;
import java.util.List;
import java.util.Set;
import java.util.TreeSet;
import java.util.regex.Matcher;
import java.util.regex.Pattern;

/** Runs the calls that README.md shows, as they stand there, and compares the answers with those that it shows. */
public final class ReadmeTest {
    private static final int MOST_CALLS = 512;
    private static final Pattern MADE = Pattern.compile("TracePost post = new TracePost\\(\\);");
    private static final Pattern CALL = Pattern.compile("post\\.(\\w+)\\(([^()]*)\\);\\s*// ([^: ]+): \\S.*");
    private static final Pattern LOOP = Pattern.compile("for \\(int n = (\\d+); n <= (\\d+); n\\+\\+\\) (post\\..*)");
    private static final Pattern CONSTANT = Pattern.compile("\\| `(\\w+)` +\\| ([^|]*[^| ]) *\\| \\S.*\\|");
    private static final Due due = new Due("README.md");
    private static final Set<String> shownCalls = new TreeSet<>();
    private static final Set<String> shownAnswers = new HashSet<>();
    private static TracePost post;
    private static int calls;

    public static void main(String[] args) throws IOException, ReflectiveOperationException {
        List<String> readme = Files.readAllLines(Path.of("README.md"));
        for (String line : codeOf(readme)) {
            run(line);
        }
        allIsShown();
        constants(readme);
        tests(String.join("\n", readme));
        due.end();
    }

    private static void fine(String what, boolean holds) {
        due.is(what, holds ? 1 : 0, 1);
    }

    /** A line of code that is not run could say anything, so blocks of any other kind are not let in. */
    private static List<String> codeOf(List<String> readme) {
        List<String> code = new ArrayList<>();
        boolean inside = false;
        for (String line : readme) {
            if (line.startsWith("```")) {
                fine("a block of java begins or ends by: " + line, line.equals(inside ? "```" : "```java"));
                inside = !inside;
            } else if (inside) {
                code.add(line);
            } else {
                fine("a call with its answer stands in a block of java: " + line, !CALL.matcher(line).find());
            }
        }
        fine("the last block has an end", !inside);
        return code;
    }

    private static void run(String line) throws ReflectiveOperationException {
        Matcher loop = LOOP.matcher(line);
        if (MADE.matcher(line).matches()) {
            fine("one object is made", post == null);
            post = new TracePost();
        } else if (loop.matches()) {
            for (int n = Integer.parseInt(loop.group(1)); n <= Integer.parseInt(loop.group(2)); n++) {
                call(withNumber(loop.group(3), n));
            }
        } else {
            call(line);
        }
    }

    private static String withNumber(String line, int n) {
        int comment = Math.max(0, line.indexOf("//"));
        return line.substring(0, comment).replaceAll("\\bn\\b", String.valueOf(n)) + line.substring(comment);
    }

    private static void call(String line) throws ReflectiveOperationException {
        Matcher call = CALL.matcher(line);
        boolean isCall = call.matches();
        fine("a call of the object with its answer: " + line, isCall && post != null);
        if (!isCall || post == null) {
            return;
        }
        String[] words = call.group(2).isBlank() ? new String[0] : call.group(2).split(", ");
        Method method = methodOf(call.group(1), words.length);
        fine("the class has such a method: " + line, method != null);
        if (method != null) {
            calls++;
            shownCalls.add(method.getName());
            shownAnswers.add(call.group(3));
            Object got = method.invoke(post, valuesOf(words, method.getParameterTypes()));
            due.is(line, ((Number) got).longValue(), answerOf(call.group(3)));
        }
    }

    private static Method methodOf(String name, int parameters) {
        for (Method m : TracePost.class.getDeclaredMethods()) {
            if (Modifier.isPublic(m.getModifiers()) && m.getName().equals(name) && m.getParameterCount() == parameters) {
                return m;
            }
        }
        return null;
    }

    private static Object[] valuesOf(String[] words, Class<?>[] types) {
        Object[] values = new Object[words.length];
        for (int i = 0; i < words.length; i++) {
            if (types[i] == boolean.class) {
                fine("true or false: " + words[i], words[i].equals("true") || words[i].equals("false"));
                values[i] = Boolean.valueOf(words[i]);
            } else if (types[i] == long.class) {
                values[i] = Long.valueOf(words[i]);
            } else {
                values[i] = Integer.valueOf(words[i]);
            }
        }
        return values;
    }

    private static long answerOf(String shown) throws ReflectiveOperationException {
        if (shown.matches("[A-Z]+")) {
            return ((Number) TracePost.class.getField(shown).get(null)).longValue();
        }
        return Long.parseLong(shown);
    }

    private static void allIsShown() {
        Set<String> face = new TreeSet<>();
        Arrays.stream(TracePost.class.getDeclaredMethods()).filter(m -> Modifier.isPublic(m.getModifiers()))
            .forEach(m -> face.add(m.getName()));
        fine("each method is shown; there are " + face + ", shown are " + shownCalls, face.equals(shownCalls));
        for (Field constant : TracePost.class.getFields()) {
            fine(constant.getName() + " is shown as an answer", shownAnswers.contains(constant.getName()));
        }
        fine("the answers after " + MOST_CALLS + " calls are free, and there are " + calls, calls <= MOST_CALLS);
    }

    private static void constants(List<String> readme) throws ReflectiveOperationException {
        Set<String> told = new HashSet<>();
        for (String line : readme) {
            Matcher row = CONSTANT.matcher(line);
            if (row.matches()) {
                told.add(row.group(1));
                String number = row.group(2).replace("`Long.MIN_VALUE`", String.valueOf(Long.MIN_VALUE));
                due.is(line, Long.parseLong(number), answerOf(row.group(1)));
            }
        }
        for (Field constant : TracePost.class.getFields()) {
            fine("what " + constant.getName() + " tells is said", told.contains(constant.getName()));
        }
    }

    /** Each file of the tests is named, and each file that is named is there; so is the script that runs them. */
    private static void tests(String readme) throws IOException {
        Set<String> there = new TreeSet<>();
        try (var files = Files.list(Path.of("src/test/java"))) {
            files.forEach(file -> there.add(file.getFileName().toString()));
        }
        for (String name : there) {
            fine(name + " is named", readme.contains(name));
        }
        there.addAll(List.of("TracePost.java", "Yours.java"));
        Matcher named = Pattern.compile("\\w+\\.java").matcher(readme);
        while (named.find()) {
            fine(named.group() + " is there", there.contains(named.group()));
        }
        fine("it says how to run the tests", readme.contains("    bash .ci/run\n") && Files.isExecutable(Path.of(".ci/run")));
    }
}
