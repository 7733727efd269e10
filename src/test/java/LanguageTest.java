import java.io.IOException;
import java.lang.reflect.Constructor;
import java.lang.reflect.Field;
import java.lang.reflect.Method;
import java.lang.reflect.Modifier;
import java.nio.file.Files;
import java.nio.file.Path;
import java.util.ArrayList;
import java.util.HashSet;
import java.util.List;
import java.util.Set;
import java.util.regex.Matcher;
import java.util.regex.Pattern;

/** What of LANGUAGE.md can be told from the source and the compiled class; a coarse sieve, no proof. */
public final class LanguageTest {
    private static final Check CHECK = new Check();
    private static final Path SOURCE = Path.of("src/main/java/EvenTables.java");
    private static final Path DOCUMENT = Path.of("../shared/DOC.md");
    private static final Pattern METHOD = Pattern.compile("^ +(?:(?:public|private|static) )*[\\w\\[\\]]+ (\\w+)\\(([^)]*)\\) \\{$");

    public static void main(String[] args) throws IOException {
        String source = Files.readString(SOURCE);
        String code = source.replaceAll("(?s)/\\*.*?\\*/", "").replaceAll("//.*", "");
        face();
        members();
        words(code);
        methods(code);
        makesNothingInCalls(code);
        CHECK.finish("LanguageTest");
    }

    /** Every constant, constructor and method of the document's face, and no other public one. */
    private static void face() throws IOException {
        CHECK.in("rule 1");
        Set<String> due = new HashSet<>();
        Matcher matcher = Pattern.compile("(?m)^ +public (int|long|boolean) (\\w+)\\((.*)\\);$").matcher(Files.readString(DOCUMENT));
        while (matcher.find()) {
            String types = matcher.group(3).replaceAll("(\\w+) \\w+", "$1").replace(" ", "");
            due.add(matcher.group(1) + " " + matcher.group(2) + "(" + types + ")");
        }
        Set<String> got = new HashSet<>();
        for (Method method : EvenTables.class.getDeclaredMethods()) {
            if (Modifier.isPublic(method.getModifiers())) {
                List<String> types = new ArrayList<>();
                for (Class<?> type : method.getParameterTypes()) {
                    types.add(type.getName());
                }
                got.add(method.getReturnType().getName() + " " + method.getName() + "(" + String.join(",", types) + ")");
            }
        }
        CHECK.due("methods of the document", due.size(), 33);
        if (!due.equals(got)) {
            CHECK.fail("the face is " + got + ", due is " + due);
        }
    }

    private static void members() {
        for (Method method : EvenTables.class.getDeclaredMethods()) {
            if (!Modifier.isPublic(method.getModifiers()) && !Modifier.isPrivate(method.getModifiers())) {
                CHECK.fail(method + " is neither public nor private");
            }
        }
        for (Field field : EvenTables.class.getDeclaredFields()) {
            boolean none = field.getName().equals("NONE");
            if (Modifier.isPublic(field.getModifiers()) != none || !none && !Modifier.isPrivate(field.getModifiers())) {
                CHECK.fail(field + " is not as due");
            }
        }
        for (Constructor<?> constructor : EvenTables.class.getDeclaredConstructors()) {
            CHECK.due("a constructor's parameters", constructor.getParameterCount(), 0);
        }
        CHECK.in("rules 5 and 11");
        Class<?>[] classes = EvenTables.class.getDeclaredClasses();
        CHECK.due("not too many classes", classes.length <= 11, true);
        for (Class<?> inside : classes) {
            CHECK.due(inside + " is static", Modifier.isStatic(inside.getModifiers()), true);
            int fields = 0;
            for (Field field : inside.getDeclaredFields()) {
                boolean fixed = Modifier.isStatic(field.getModifiers());
                CHECK.due(field + " final, if static", !fixed || Modifier.isFinal(field.getModifiers()), true);
                fields += fixed ? 0 : 1;
            }
            CHECK.due(inside + " has few fields", fields <= 20, true);
        }
    }

    private static void words(String code) {
        CHECK.in("rules 2, 4, 6 and 13");
        String[] wrong = {"\\bthrow\\b", "\\bthrows\\b", "\\btry\\b", "\\bcatch\\b", "\\bsynchronized\\b", "\\bassert\\b", "->", "::",
            "Exact\\b", "\\bvar\\b", "\\bSystem\\.(?!arraycopy)", "\\bRandom\\b", "\\bThread\\b", "\\bObject\\b", "\\bpackage\\b",
            "\\bMAX_VALUE\\b", "\\bMIN_VALUE\\b", "\\bequals\\b", "\\bhashCode\\b", "\\btoString\\b", "\\bprotected\\b", "static \\{"};
        for (String word : wrong) {
            if (Pattern.compile(word).matcher(code).find()) {
                CHECK.fail("the program has " + word);
            }
        }
        Matcher imports = Pattern.compile("import ([\\w.*]+);").matcher(code);
        while (imports.find()) {
            CHECK.due("import " + imports.group(1), imports.group(1).equals("java.util.Arrays"), true);
        }
        Matcher calls = Pattern.compile("\\b(Arrays|Math|Integer|Long)\\.(\\w+)").matcher(code);
        Set<String> known = Set.of("Arrays.fill", "Math.max", "Math.min", "Integer.bitCount", "Long.bitCount");
        while (calls.find()) {
            CHECK.due(calls.group(), known.contains(calls.group()), true);
        }
    }

    private static void methods(String code) {
        CHECK.in("rules 1 and 11");
        Set<String> face = new HashSet<>();
        for (Method method : EvenTables.class.getDeclaredMethods()) {
            if (Modifier.isPublic(method.getModifiers())) {
                face.add(method.getName());
            }
        }
        String[] lines = code.split("\n");
        int found = 0;
        for (int i = 0; i < lines.length; i++) {
            Matcher matcher = METHOD.matcher(lines[i]);
            if (matcher.find()) {
                found++;
                String name = matcher.group(1);
                int parameters = matcher.group(2).isEmpty() ? 0 : matcher.group(2).split(",").length;
                CHECK.due(name + " has few parameters", parameters <= 7, true);
                boolean isPublic = lines[i].contains("public ");
                CHECK.due(name + " bears a name of its own", isPublic || !face.contains(name), true);
                String close = lines[i].substring(0, lines[i].length() - lines[i].stripLeading().length()) + "}";
                int end = i;
                while (end < lines.length && !lines[end].equals(close)) {
                    end++;
                }
                CHECK.due(name + " is short", end - i <= 60, true);
            }
        }
        CHECK.due("methods are seen", found > 100, true);
    }

    /** All calls of a run live in one room: whatever is made, is made with the object. */
    private static void makesNothingInCalls(String code) {
        CHECK.in("rule 12");
        for (String line : code.split("\n")) {
            if (line.contains("new ") && !line.matches(" +(private )?final [\\w\\[\\]]+ \\w+ = new .*")) {
                CHECK.due("made in a constructor: " + line.strip(), line.matches(" +(slots|levels)\\[i\\] = new .*"), true);
            }
        }
    }
}
