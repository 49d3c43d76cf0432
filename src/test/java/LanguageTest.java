import java.lang.reflect.Constructor;
import java.lang.reflect.Field;
import java.lang.reflect.Member;
import java.lang.reflect.Method;
import java.lang.reflect.Modifier;
import java.nio.file.Files;
import java.nio.file.Path;
import java.util.ArrayList;
import java.util.Arrays;
import java.util.List;
import java.util.Set;
import java.util.TreeSet;
import java.util.regex.Matcher;
import java.util.regex.Pattern;

/** The document's face, and those rules of LANGUAGE.md that the class or its text show; the text's path is the argument. */
public final class LanguageTest {
    private static final String[] FACE = {
        "letter(int,int,int)", "say(int)", "dot(int)", "wipe(int)", "abbreviate(int)", "write(int,int)", "read(int,int)",
        "ways(int,int)", "word()", "count(int,int,int)", "room(int,int,int)", "row()", "chosen(int,int,int,int)",
        "reader(int,int,boolean)", "know(int,int,int)", "move(int,int)", "about(int,int)", "near(int,int)",
        "pace(int,int)", "learn(int,int)", "shelf(int,int,int,int)", "reads(int)", "school(int,int)", "fund(int,int)",
        "sign(int)", "fault()", "board(int)", "voters(int)", "choice(int,boolean)", "part(int,int)", "mix(int)",
        "anew(int)", "best()", "told(int)"};
    private static final String[] CONSTANTS = {"UNKNOWN", "OUTSIDE", "STATE", "FULL", "NO", "NONE"};

    private LanguageTest() {
    }

    public static void main(String[] args) throws Exception {
        face();
        for (Class<?> one : classes()) {
            members(one);
        }
        Due.due("classes above twelve", Math.max(0, classes().size() - 12), 0);
        if (args.length > 0) {
            String text = Files.readString(Path.of(args[0]));
            words(text);
            lengths(text);
        }
        if (args.length > 1) {
            faceOf(Files.readString(Path.of(args[1])));
        }
        Due.end();
    }

    private static List<Class<?>> classes() {
        List<Class<?>> all = new ArrayList<>(List.of(DotWar.class));
        all.addAll(Arrays.asList(DotWar.class.getDeclaredClasses()));
        return all;
    }

    private static void yes(String what, boolean so) {
        Due.due(what, so ? 1 : 0, 1);
    }

    private static boolean isPrivate(Member member) {
        return Modifier.isPrivate(member.getModifiers());
    }

    private static void face() {
        yes("public", Modifier.isPublic(DotWar.class.getModifiers()));
        yes("final", Modifier.isFinal(DotWar.class.getModifiers()));
        Set<String> methods = new TreeSet<>();
        for (Method method : DotWar.class.getDeclaredMethods()) {
            if (!isPrivate(method)) {
                yes(method + " is public and answers int", Modifier.isPublic(method.getModifiers()) && method.getReturnType() == int.class);
                methods.add(method.getName() + "(" + String.join(",", Arrays.stream(method.getParameterTypes()).map(Class::getName).toList()) + ")");
            }
        }
        yes("methods " + methods, methods.equals(new TreeSet<>(Arrays.asList(FACE))));
        Set<String> fields = new TreeSet<>();
        for (Field field : DotWar.class.getDeclaredFields()) {
            if (!isPrivate(field)) {
                yes(field + " is a public constant", Modifier.toString(field.getModifiers()).equals("public static final"));
                fields.add(field.getName());
            }
        }
        yes("constants " + fields, fields.equals(new TreeSet<>(Arrays.asList(CONSTANTS))));
        Constructor<?>[] made = DotWar.class.getDeclaredConstructors();
        yes("one constructor", made.length == 1 && made[0].getParameterCount() == 0 && Modifier.isPublic(made[0].getModifiers()));
    }

    /** The face that the document shows is the one that is asked for here, with the values of its constants. */
    private static void faceOf(String document) throws ReflectiveOperationException {
        Set<String> calls = new TreeSet<>();
        Matcher call = Pattern.compile("public int (\\w+)\\(([^)]*)\\);").matcher(document);
        while (call.find()) {
            calls.add(call.group(1) + "(" + call.group(2).replaceAll("(int|boolean) \\w+", "$1").replace(", ", ",") + ")");
        }
        yes("calls of the document " + calls, calls.equals(new TreeSet<>(Arrays.asList(FACE))));
        Matcher constants = Pattern.compile("public static final int ([^;]*);").matcher(document);
        yes("constants of the document", constants.find());
        for (String constant : constants.group(1).split(", ")) {
            String[] named = constant.split(" = ");
            Due.due(named[0], DotWar.class.getField(named[0]).getInt(null), Integer.parseInt(named[1]));
        }
    }

    private static void members(Class<?> one) {
        yes(one + " is static", one == DotWar.class || Modifier.isStatic(one.getModifiers()));
        yes(one + " has no classes", one == DotWar.class || one.getDeclaredClasses().length == 0);
        int fields = 0;
        for (Field field : one.getDeclaredFields()) {
            boolean isStatic = Modifier.isStatic(field.getModifiers());
            yes(field + " is final, if static", !isStatic || Modifier.isFinal(field.getModifiers()));
            fields += isStatic ? 0 : 1;
        }
        yes(one + " has twenty fields at most", fields <= 20);
        Set<String> names = new TreeSet<>();
        for (String call : FACE) {
            names.add(call.substring(0, call.indexOf('(')));
        }
        for (Method method : one.getDeclaredMethods()) {
            yes(method + " is not named as one of the face", Modifier.isPublic(method.getModifiers()) || !names.contains(method.getName()));
            yes(method + " takes seven at most", method.getParameterCount() <= 7);
        }
    }

    private static void words(String text) {
        String bare = text.replaceAll("(?s)/\\*.*?\\*/", " ").replaceAll("//[^\n]*", " ").replaceAll("\"[^\"\n]*\"", "\"\"");
        String[] ruledOut = {"throw", "throws", "try", "catch", "synchronized", "assert", "package", "native", "volatile",
            "Object", "Exception", "hashCode", "toString", "Random", "System.out", "currentTimeMillis", "nanoTime", "var"};
        for (String word : ruledOut) {
            yes("no " + word, !Pattern.compile("\\b" + Pattern.quote(word) + "\\b").matcher(bare).find());
        }
        yes("no lambda", !bare.contains("->"));
        yes("no method reference", !bare.contains("::"));
        yes("no Exact", !bare.contains("Exact"));
        Matcher imports = Pattern.compile("import ([^;]+);").matcher(bare);
        while (imports.find()) {
            yes("import " + imports.group(1), Set.of("java.util.Arrays", "java.util.ArrayList", "java.util.List").contains(imports.group(1)));
        }
        yes("signs 1 to 127", text.chars().allMatch(sign -> sign >= 1 && sign <= 127));
        Matcher calls = Pattern.compile("\\b(Math|Integer|Long|Arrays|System)\\.(\\w+)").matcher(bare);
        Set<String> allowed = Set.of("max", "min", "abs", "bitCount", "fill", "arraycopy", "floorDiv", "floorMod", "compare");
        while (calls.find()) {
            yes(calls.group(), allowed.contains(calls.group(2)));
        }
    }

    /** A method ends at the brace that stands below its first sign. */
    private static void lengths(String text) {
        String[] lines = text.split("\n");
        for (int from = 0; from < lines.length; from++) {
            Matcher head = Pattern.compile("^( {4}| {8})\\w[^=]*\\(.*\\) \\{$").matcher(lines[from]);
            if (head.matches()) {
                int to = from;
                while (to + 1 < lines.length && !lines[to].equals(head.group(1) + "}")) {
                    to++;
                }
                yes(lines[from].trim() + " has sixty lines at most", to - from < 60);
            }
        }
    }
}
