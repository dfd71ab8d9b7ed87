import java.lang.reflect.Constructor;
import java.lang.reflect.Field;
import java.lang.reflect.Method;
import java.lang.reflect.Modifier;
import java.nio.file.Files;
import java.nio.file.Path;
import java.util.Arrays;
import java.util.Set;
import java.util.TreeSet;
import java.util.regex.Matcher;
import java.util.regex.Pattern;

/** The document's public face, and those rules of ../shared/LANGUAGE.md that can be seen without running calls. */
final class LanguageTest {
    private static final Due DUE = new Due();
    private static final Path PROGRAM = Path.of("src/main/java/NinthAir.java");

    private static final String[] FACE = {
        "int room(int,int,int)", "int roomOf(int,int)", "int door(int,int)", "int cold(int)", "int one(int,int)",
        "int of(int,int)", "int set(int,int,int)", "int turn(int,int)", "int as(int,int)", "int goes(int)",
        "int hours(int)", "int now(int)", "int on(int,int,int)", "int when(int)", "int first()", "int well()",
        "int doors()", "int shut(int)", "int fire(int,int)", "int fires(int,int,int)", "int sleep(int)",
        "int kind(int,int)", "int costs(int,int)", "long share(int,int)", "int swept(int)", "int sweeps(int)",
        "int owed()", "int leaked(int,int,int)", "int feed(int,int)", "int wipe()", "int text()",
        "int sheet(int,int,int)", "long write(int,int,long)", "int copy(int,int,int,int,int)", "int lays(int)",
        "int book(int,int)", "int read(int,int)", "int image()", "int undo()", "int tear()", "int count(int)",
        "int status(int)"};

    public static void main(String[] args) throws Exception {
        face();
        classesInside();
        source(withoutComments(Files.readString(PROGRAM)));
        DUE.end("LanguageTest");
    }

    private static String told(Method m) {
        StringBuilder told = new StringBuilder(m.getReturnType() + " " + m.getName() + "(");
        for (int i = 0; i < m.getParameterCount(); i++) {
            told.append(i > 0 ? "," : "").append(m.getParameterTypes()[i]);
        }
        return told.append(')').toString();
    }

    private static void face() {
        Set<String> due = new TreeSet<>(Arrays.asList(FACE));
        Set<String> shown = new TreeSet<>();
        for (Method m : NinthAir.class.getDeclaredMethods()) {
            if (!Modifier.isPrivate(m.getModifiers())) {
                shown.add(told(m));
                DUE.that(m + " is public, not static", m.getModifiers() == Modifier.PUBLIC);
            }
        }
        DUE.that("the face is " + due + ", shown is " + shown, due.equals(shown));
        DUE.that("public and final", NinthAir.class.getModifiers() == (Modifier.PUBLIC | Modifier.FINAL));
        Constructor<?>[] made = NinthAir.class.getDeclaredConstructors();
        DUE.that("one public constructor", made.length == 1 && made[0].getParameterCount() == 0
                && made[0].getModifiers() == Modifier.PUBLIC);
        for (Field f : NinthAir.class.getDeclaredFields()) {
            DUE.that(f + " is private", Modifier.isPrivate(f.getModifiers()));
        }
    }

    private static void classesInside() {
        Set<String> names = new TreeSet<>();
        for (String call : FACE) {
            names.add(call.substring(call.indexOf(' ') + 1, call.indexOf('(')));
        }
        Class<?>[] inside = NinthAir.class.getDeclaredClasses();
        DUE.that("at most some twelve classes", inside.length <= 11);
        looksRight(NinthAir.class);
        for (Class<?> c : inside) {
            looksRight(c);
            DUE.that(c + " is static", Modifier.isStatic(c.getModifiers()));
            for (Method m : c.getDeclaredMethods()) {
                DUE.that(m + " bears no name of the face", !names.contains(m.getName()));
            }
        }
        for (Method m : NinthAir.class.getDeclaredMethods()) {
            DUE.that(m + " bears no name of the face",
                    Modifier.isPublic(m.getModifiers()) || !names.contains(m.getName()));
        }
    }

    private static void looksRight(Class<?> c) {
        int fields = 0;
        for (Field f : c.getDeclaredFields()) {
            boolean isStatic = Modifier.isStatic(f.getModifiers());
            fields += isStatic ? 0 : 1;
            DUE.that(f + " is final if it is static", !isStatic || Modifier.isFinal(f.getModifiers()));
            DUE.that(f + " is a constant the rules know", !isStatic
                    || Set.of("int", "long", "boolean", "char", "class java.lang.String", "class [I", "class [J",
                            "class [C", "class [B").contains(f.getType().toString()));
        }
        DUE.that(c + " has some twenty fields", fields <= 20);
        for (Method m : c.getDeclaredMethods()) {
            DUE.that(m + " takes at most seven", m.getParameterCount() <= 7);
        }
    }

    private static String withoutComments(String source) {
        return source.replaceAll("(?s)/\\*.*?\\*/", "").replaceAll("//[^\n]*", "");
    }

    private static void source(String source) {
        for (String word : new String[] {"throw", "throws", "try", "catch", "synchronized", "assert", "import",
            "package", "Object", "hashCode", "toString", "Random", "Thread", "char\\[\\]\\[\\]", "finally"}) {
            DUE.that("the word " + word + " doesn't stand there",
                    !Pattern.compile("\\b" + word + "\\b").matcher(source).find());
        }
        DUE.that("no lambda, no method reference", !source.contains("->") && !source.contains("::"));
        DUE.that("no sign above 127", source.chars().allMatch(c -> c < 128));
        DUE.that("no text is joined by +", !Pattern.compile("\"\\s*\\+|\\+\\s*\"").matcher(source).find());
        Matcher made = Pattern.compile("(?m)^.*\\bnew\\b.*$").matcher(source);
        while (made.find()) {
            String line = made.group().trim();
            DUE.that("made with the object, not in a call: " + line,
                    line.matches("(private )?final \\w+(\\[\\])? \\w+ = new .*;")
                            || line.equals("sheets[s] = new Sheet();"));
        }
        Matcher dots = Pattern.compile("\\b(Math|Integer|Long|System|Arrays|Character|String)\\.(\\w+)").matcher(source);
        Set<String> known = Set.of("Math.min", "Math.max", "Integer.bitCount", "Integer.numberOfTrailingZeros",
                "System.arraycopy");
        while (dots.find()) {
            DUE.that(dots.group() + " is of the library that is left", known.contains(dots.group()));
        }
        DUE.that("no loop without an end", !Pattern.compile("while\\s*\\(\\s*true|for\\s*\\(\\s*;").matcher(source).find());
        DUE.that("methods stay short", longestMethod(source) <= 60);
    }

    private static int longestMethod(String source) {
        int longest = 0;
        int lines = 0;
        boolean inside = false;
        for (String line : source.split("\n")) {
            if (line.matches("(    |        )\\S[^=;]*\\) \\{")) {
                inside = true;
                lines = 0;
            }
            lines += inside ? 1 : 0;
            if (line.matches("(    |        )\\}")) {
                longest = Math.max(longest, lines);
                inside = false;
            }
        }
        return longest;
    }
}
