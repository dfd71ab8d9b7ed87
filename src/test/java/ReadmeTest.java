import java.io.File;
import java.lang.reflect.Method;
import java.lang.reflect.Modifier;
import java.nio.file.Files;
import java.nio.file.Path;
import java.util.HashMap;
import java.util.Map;
import java.util.regex.Matcher;
import java.util.regex.Pattern;

/** README.md: each call of its examples answers what stands behind it, and no call and no test is left out. */
final class ReadmeTest {
    private static final Due DUE = new Due();
    private static final Path README = Path.of("README.md");
    private static final String NEW_OBJECT = "NinthAir x = new NinthAir();";
    private static final Pattern CALL = Pattern.compile("x\\.(\\w+)\\(([^)]*)\\); +// (-?\\d+)(: .+)?");

    public static void main(String[] args) throws Exception {
        String readme = Files.readString(README);
        Map<String, Method> face = face();
        Matcher example = Pattern.compile("(?s)```java\n(.*?)```").matcher(readme);
        int examples = 0;
        while (example.find()) {
            examples++;
            askExample(face, example.group(1));
        }
        DUE.that("there are examples", examples > 0);
        for (String name : face.keySet()) {
            DUE.that(name + "() is named", readme.contains("`" + name + "()`"));
        }
        for (File file : new File("src/test/java").listFiles((folder, name) -> name.endsWith("Test.java"))) {
            String name = file.getName().replace(".java", "");
            DUE.that(name + " is named", Pattern.compile("\\b" + name + "\\b").matcher(readme).find());
        }
        DUE.that("it says how to run the tests", readme.contains("\n    .ci/run\n"));
        DUE.end("ReadmeTest");
    }

    private static Map<String, Method> face() {
        Map<String, Method> face = new HashMap<>();
        for (Method m : NinthAir.class.getDeclaredMethods()) {
            if (Modifier.isPublic(m.getModifiers())) {
                face.put(m.getName(), m);
            }
        }
        return face;
    }

    private static void askExample(Map<String, Method> face, String example) throws Exception {
        NinthAir x = null;
        for (String line : example.split("\n")) {
            Matcher call = CALL.matcher(line);
            if (line.equals(NEW_OBJECT)) {
                x = new NinthAir();
            } else if (x != null && call.matches() && face.containsKey(call.group(1))) {
                DUE.is(line, answer(x, face.get(call.group(1)), call.group(2)), Long.parseLong(call.group(3)));
            } else {
                DUE.that("this can be asked: " + line, false);
            }
        }
    }

    private static long answer(NinthAir x, Method m, String arguments) throws Exception {
        String[] told = arguments.isEmpty() ? new String[0] : arguments.split(", ");
        Object[] given = new Object[told.length];
        for (int i = 0; i < told.length; i++) {
            long v = Long.decode(told[i]);
            if (m.getParameterTypes()[i] == long.class) {
                given[i] = v;
            } else {
                given[i] = (int) v;
            }
        }
        return ((Number) m.invoke(x, given)).longValue();
    }
}
