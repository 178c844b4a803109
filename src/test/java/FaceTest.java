import java.io.IOException;
import java.lang.reflect.Constructor;
import java.lang.reflect.Field;
import java.lang.reflect.Method;
import java.lang.reflect.Modifier;
import java.nio.file.Files;
import java.nio.file.Path;
import java.util.Arrays;
import java.util.HashSet;
import java.util.List;
import java.util.Set;
import java.util.TreeSet;
import java.util.regex.Matcher;
import java.util.regex.Pattern;

/** The class's face as the document has it, and those rules of LANGUAGE.md that its text or its members show. */
public final class FaceTest {
    private static final String FACE = "int report(int,int,int,int,int,int,long,long); int spans(int); int span(int,int,int);"
        + " int kid(int,int,int); int root(int,int); int trace(int,int); long time(int,int,boolean,boolean); long bound(int,int);"
        + " long skew(int,int,int); int ring(int); int put(); long moved(int); int attempt(int,long); int check(); int way(int,int);"
        + " long part(int,int); long share(int,int); int slow(int,int); int quota(int); int close(int); int kept(int); int stands(int);"
        + " int drop(int); int total(int,int,int); int percent(int,int,int); int flow(int,int,int); int count(int)";
    private static final Due due = new Due("face");

    private static void fine(String what, boolean holds) {
        due.is(what, holds ? 1 : 0, 1);
    }

    public static void main(String[] args) throws IOException {
        face();
        members();
        text(Files.readString(Path.of("src/main/java/TracePost.java")));
        due.end();
    }

    private static void face() {
        Set<String> found = new TreeSet<>();
        for (Method m : TracePost.class.getDeclaredMethods()) {
            if (!Modifier.isPrivate(m.getModifiers())) {
                fine(m.getName() + " is public and not static", (m.getModifiers() & ~Modifier.STRICT) == Modifier.PUBLIC);
                List<String> types = Arrays.stream(m.getParameterTypes()).map(Class::getName).toList();
                found.add(m.getReturnType() + " " + m.getName() + "(" + String.join(",", types) + ")");
            }
        }
        Set<String> want = new TreeSet<>(List.of(FACE.split("; ")));
        fine("the methods are those of the document: " + found, found.equals(want));
        Set<String> fields = new TreeSet<>();
        for (Field f : TracePost.class.getDeclaredFields()) {
            if (!Modifier.isPrivate(f.getModifiers())) {
                fields.add(Modifier.toString(f.getModifiers()) + " " + f.getType() + " " + f.getName());
            }
        }
        fine("the constants are those of the document: " + fields, fields.equals(Set.of("public static final int NONE",
            "public static final int BAD", "public static final int STATE", "public static final int FULL", "public static final long NO")));
        Constructor<?>[] made = TracePost.class.getDeclaredConstructors();
        fine("one public constructor", made.length == 1 && Modifier.isPublic(made[0].getModifiers()) && made[0].getParameterCount() == 0);
        fine("public and final", Modifier.isPublic(TracePost.class.getModifiers()) && Modifier.isFinal(TracePost.class.getModifiers()));
    }

    private static void members() {
        Set<String> names = new HashSet<>();
        for (Method m : TracePost.class.getDeclaredMethods()) {
            if (Modifier.isPublic(m.getModifiers())) {
                names.add(m.getName());
            }
        }
        Class<?>[] inside = TracePost.class.getDeclaredClasses();
        fine("at most twelve classes", inside.length <= 11);
        lookAt(TracePost.class, names);
        for (Class<?> c : inside) {
            fine(c + " is static", Modifier.isStatic(c.getModifiers()));
            lookAt(c, names);
        }
    }

    private static void lookAt(Class<?> c, Set<String> names) {
        int fields = 0;
        for (Field f : c.getDeclaredFields()) {
            boolean isStatic = Modifier.isStatic(f.getModifiers());
            fields += isStatic ? 0 : 1;
            fine(f + ", static, is final", !isStatic || Modifier.isFinal(f.getModifiers()));
            fine(f + " has a type of its own or of numbers", !f.getType().isInterface());
        }
        fine(c + " has few fields", fields <= 20);
        for (Method m : c.getDeclaredMethods()) {
            boolean isFace = c == TracePost.class && Modifier.isPublic(m.getModifiers());
            fine(m + " has at most seven parameters", isFace || m.getParameterCount() <= 7);
            fine(m + " has a name of its own", isFace || !names.contains(m.getName()));
        }
    }

    private static void text(String source) {
        String code = source.replaceAll("(?s)/\\*.*?\\*/", "").replaceAll("//[^\n]*", "");
        for (String word : List.of("throw", "throws", "try", "catch", "synchronized", "assert", "package", "enum", "record", "native",
            "Object", "Map", "Set", "Random", "System\\.out", "System\\.in", "System\\.err", "nanoTime", "currentTimeMillis", "Thread",
            "equals", "hashCode", "toString", "protected", "instanceof", "\\w+Exact")) {
            fine("no " + word, !Pattern.compile("\\b" + word + "\\b").matcher(code).find());
        }
        fine("no lambda, no method reference", !code.contains("->") && !code.contains("::"));
        fine("no static block", !Pattern.compile("\\bstatic\\s*\\{").matcher(code).find());
        Matcher imports = Pattern.compile("import ([^;]+);").matcher(code);
        while (imports.find()) {
            fine("import " + imports.group(1), imports.group(1).equals("java.util.Arrays"));
        }
        Matcher calls = Pattern.compile("\\b(Arrays|System|Math|Integer|Long)\\.(\\w+)").matcher(code);
        Set<String> listed = Set.of("Arrays.fill", "System.arraycopy", "Math.max", "Math.min", "Integer.compare", "Long.compare",
            "Long.MIN_VALUE", "Long.MAX_VALUE");
        while (calls.find()) {
            fine("library " + calls.group(), listed.contains(calls.group()));
        }
        fine("the text's signs are 1 to 127", source.chars().allMatch(c -> c >= 1 && c <= 127));
        shortMethods(source.split("\n"));
    }

    /** A method's head stands four or eight signs in, and its end under it. */
    private static void shortMethods(String[] lines) {
        for (int i = 0; i < lines.length; i++) {
            Matcher head = Pattern.compile("^( {4}| {8})(?! )[^=;]*\\) \\{$").matcher(lines[i]);
            if (head.matches()) {
                int end = i;
                while (end < lines.length && !lines[end].equals(head.group(1) + "}")) {
                    end++;
                }
                fine("line " + (i + 1) + ": a short method", end - i < 60);
            }
        }
    }
}
