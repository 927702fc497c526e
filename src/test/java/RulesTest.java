import java.io.IOException;
import java.lang.reflect.Constructor;
import java.lang.reflect.Field;
import java.lang.reflect.Method;
import java.lang.reflect.Modifier;
import java.nio.file.Files;
import java.nio.file.Path;
import java.util.ArrayList;
import java.util.List;
import java.util.Map;
import java.util.TreeMap;
import java.util.TreeSet;
import java.util.regex.Matcher;
import java.util.regex.Pattern;

/** The document's face, and what of LANGUAGE.md can be seen in the source or in the classes. */
public final class RulesTest {
    private static final Path SOURCE = Path.of("src/main/java/HowFarShesGot.java");
    private static final List<String> FACE = List.of(
        "int letter(int)", "int garden()", "int square(int,int)", "int turnTo(int,int)", "int set(int,int)",
        "int seeker(int,int)", "int stand(int,int)", "int steps(int)", "int mayBe(int,int)", "int out(int)",
        "int shut()", "int firstGap()", "int search(int,int)", "int left(int,int,int)",
        "int looksAt(int,int,int)", "int bestSeeker(int,int)", "int together(int)", "int hold(int)",
        "long ways(int,int)", "long likely(int,int,int)", "int likeliest(int)", "int turning(int,int)",
        "int finds(int)", "int row(int)", "int judge(int)", "int behind(int)", "int lots(int,int)",
        "int image()", "int on()", "int count(int)");
    private static final List<String> FORBIDDEN = List.of(
        "\\bthrows?\\b", "\\btry\\b", "\\bcatch\\b", "\\bsynchronized\\b", "\\bassert\\b", "\\bimport\\b",
        "\\bpackage\\b", "\\bprotected\\b", "->", "::", "Exact\\(", "\\bvar\\b", "\\bnull\\b",
        "\\bsystem\\.(?!arraycopy)", "\\bhashCode\\b", "\\btoString\\b", "\\bMAX_VALUE\\b", "\\bMIN_VALUE\\b",
        "\\bstatic \\{", "@");

    private static int wrong = 0;

    public static void main(String[] args) throws IOException {
        face();
        List<Class<?>> classes = new ArrayList<>(List.of(HowFarShesGot.class.getDeclaredClasses()));
        inside(classes);
        classes.add(HowFarShesGot.class);
        atMost("classes", classes.size(), 12);
        classes.forEach(RulesTest::membersOf);
        source(Files.readString(SOURCE));
        System.out.println(wrong + " rules broken");
        if (wrong != 0) {
            System.exit(1);
        }
    }

    private static void must(boolean holds, String rule) {
        if (!holds) {
            wrong++;
            System.out.println("broken: " + rule);
        }
    }

    private static void atMost(String what, int many, int most) {
        must(many <= most, what + ": " + many + ", at most " + most);
    }

    private static void face() {
        Class<?> program = HowFarShesGot.class;
        int both = Modifier.PUBLIC | Modifier.FINAL;
        must((program.getModifiers() & both) == both, "the class is public and final");
        TreeSet<String> open = new TreeSet<>();
        TreeSet<String> names = new TreeSet<>();
        TreeSet<String> hidden = new TreeSet<>();
        for (Method method : program.getDeclaredMethods()) {
            if (Modifier.isPrivate(method.getModifiers())) {
                hidden.add(method.getName());
                continue;
            }
            must(Modifier.isPublic(method.getModifiers()), method + " is public or private");
            List<String> arguments = new ArrayList<>();
            for (Class<?> argument : method.getParameterTypes()) {
                arguments.add(argument.getName());
            }
            open.add(method.getReturnType() + " " + method.getName() + "(" + String.join(",", arguments) + ")");
            names.add(method.getName());
        }
        must(open.equals(new TreeSet<>(FACE)), "the public face is the document's: " + open);
        hidden.retainAll(names);
        must(hidden.isEmpty(), "no private method bears a public one's name: " + hidden);
        Constructor<?>[] constructors = program.getDeclaredConstructors();
        must(constructors.length == 1 && constructors[0].getParameterCount() == 0
            && Modifier.isPublic(constructors[0].getModifiers()), "one public constructor without arguments");
    }

    private static void inside(List<Class<?>> classes) {
        for (Class<?> one : classes) {
            must(Modifier.isStatic(one.getModifiers()), one + " is static");
            must(!Modifier.isPublic(one.getModifiers()), one + " is not public");
        }
    }

    private static void membersOf(Class<?> one) {
        int fields = 0;
        for (Field field : one.getDeclaredFields()) {
            must(Modifier.isPrivate(field.getModifiers()), field + " is private");
            if (Modifier.isStatic(field.getModifiers())) {
                must(Modifier.isFinal(field.getModifiers()), field + " is final");
            } else {
                fields++;
            }
        }
        atMost("fields of " + one, fields, 20);
        for (Method method : one.getDeclaredMethods()) {
            atMost("parameters of " + method, method.getParameterCount(), 7);
        }
    }

    private static void source(String text) {
        must(text.chars().allMatch(c -> c == '\n' || c >= 32 && c < 127), "the source's signs are plain");
        String code = text.replaceAll("(?s)/\\*.*?\\*/", " ").replaceAll("//[^\n]*", " ")
            .replaceAll("'[^']'", "' '").replaceAll("\"[^\"\n]*\"", "\"\"");
        for (String word : FORBIDDEN) {
            must(!code.replace("System", "system").matches("(?s).*" + word + ".*"), "there is no " + word);
        }
        Map<String, String> bodies = bodies(code);
        bodies.forEach((name, body) -> {
            boolean constructor = Character.isUpperCase(name.charAt(0));
            boolean makes = Pattern.compile("\\bnew\\b").matcher(body).find();
            must(constructor || !makes, "objects are made with the program alone, not in " + name);
        });
        bodies.forEach((name, body) -> atMost("lines of " + name, body.split("\n").length, 60));
        for (String name : bodies.keySet()) {
            atMost("calls deep from " + name, deep(name, bodies, 0), 8);
        }
    }

    /** Each method's lines by its name; of one name the methods' lines together. */
    private static Map<String, String> bodies(String code) {
        Map<String, String> bodies = new TreeMap<>();
        String head = "^( +)(?:public|private) [^=;{}]*?(\\w+)\\([^)]*\\) \\{\n";
        Matcher method = Pattern.compile("(?ms)" + head + "(.*?)^\\1\\}").matcher(code);
        while (method.find()) {
            bodies.merge(method.group(2), method.group(3), String::concat);
        }
        must(bodies.size() > FACE.size(), "methods are seen");
        return bodies;
    }

    /** How many of the program's own methods stand open at once, this one counted. */
    private static int deep(String name, Map<String, String> bodies, int open) {
        if (open > 20) {
            return open;
        }
        int deepest = 0;
        Matcher call = Pattern.compile("(\\w+)\\(").matcher(bodies.get(name));
        while (call.find()) {
            if (bodies.containsKey(call.group(1))) {
                deepest = Math.max(deepest, deep(call.group(1), bodies, open + 1));
            }
        }
        return 1 + deepest;
    }
}
