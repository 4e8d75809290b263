import java.io.PrintWriter;
import java.io.StringWriter;
import java.lang.reflect.Constructor;
import java.lang.reflect.Field;
import java.lang.reflect.Method;
import java.lang.reflect.Modifier;
import java.nio.file.Files;
import java.nio.file.Path;
import java.util.ArrayList;
import java.util.Arrays;
import java.util.LinkedHashMap;
import java.util.List;
import java.util.Map;
import java.util.NoSuchElementException;
import java.util.Set;
import java.util.TreeSet;
import java.util.regex.Matcher;
import java.util.regex.Pattern;
import java.util.spi.ToolProvider;

/** The face to the letter, and those rules of ../shared/LANGUAGE.md that can be seen from the text. It runs where .ci/run does. */
public final class RulesTest {
    static final String[] FACE = {
        "int feed(long,long,long)", "int town()", "int year()", "int person(int,int)", "int life(int,int)",
        "boolean may(int,int)", "boolean hide(int,int)", "int lot(int)", "boolean swap(int,int)", "int day()", "int home()",
        "boolean undo()", "int judged(int)", "int lots()", "int odds(int,int)", "int least(int)", "int prepare(int,int)",
        "int deeds(int,int,int,int)", "int pairs(int)", "boolean tale(int,int,int)", "int how()", "int who(int)", "int ask()",
        "int law(int)", "int rests(int,int,int,int)", "int years(int,int,int)", "boolean mark(int,boolean)", "int count(int)"};
    static int wrong = 0;

    public static void main(String[] args) throws Exception {
        face();
        String code = Files.readString(Path.of("src/main/java/BorrowedLives.java"))
                .replaceAll("(?s)/\\*.*?\\*/", "").replaceAll("//[^\n]*", "");
        banned(code);
        lengths(code);
        depths();
        System.out.println("RulesTest: " + wrong + " failed");
        System.exit(wrong == 0 ? 0 : 1);
    }

    static void must(boolean good, String what) {
        if (!good) {
            wrong++;
            System.out.println(what);
        }
    }

    static void face() {
        Class<?> c = BorrowedLives.class;
        must(c.getModifiers() == (Modifier.PUBLIC | Modifier.FINAL), "public and final");
        must(c.getPackageName().isEmpty(), "no package");
        Set<String> due = new TreeSet<>(Arrays.asList(FACE));
        Set<String> is = new TreeSet<>();
        Set<String> hiddenNames = new TreeSet<>();
        for (Method m : c.getDeclaredMethods()) {
            List<String> types = new ArrayList<>();
            for (Class<?> t : m.getParameterTypes()) {
                types.add(t.getSimpleName());
            }
            if (Modifier.isPrivate(m.getModifiers())) {
                hiddenNames.add(m.getName());
                continue;
            }
            must(m.getModifiers() == Modifier.PUBLIC, "plainly public: " + m);
            is.add(m.getReturnType().getSimpleName() + " " + m.getName() + "(" + String.join(",", types) + ")");
            boolean throwing = m.getName().equals("deeds") || m.getName().equals("rests");
            must(Arrays.equals(m.getExceptionTypes(), throwing ? new Class<?>[] {NoSuchElementException.class} : new Class<?>[0]), "throws of " + m);
        }
        must(is.equals(due), "the face is " + is);
        for (String f : due) {
            must(!hiddenNames.contains(f.replaceAll(".* |\\(.*", "")), "a private method bears the name of " + f);
        }
        for (Field f : c.getDeclaredFields()) {
            must(Modifier.isPrivate(f.getModifiers()) || f.getName().equals("NONE"), "private: " + f);
        }
        Constructor<?>[] made = c.getDeclaredConstructors();
        must(made.length == 1 && made[0].getParameterCount() == 0 && Modifier.isPublic(made[0].getModifiers()), "one constructor");
        must(c.getDeclaredClasses().length <= 12, "twelve classes");
        for (Class<?> inside : c.getDeclaredClasses()) {
            must(Modifier.isStatic(inside.getModifiers()) && !Modifier.isPublic(inside.getModifiers()), "static: " + inside);
            fields(inside);
        }
        fields(c);
    }

    static void fields(Class<?> c) {
        int own = 0;
        for (Field f : c.getDeclaredFields()) {
            boolean fixed = Modifier.isStatic(f.getModifiers());
            own += fixed ? 0 : 1;
            must(!fixed || Modifier.isFinal(f.getModifiers()), "final: " + f);
        }
        must(own <= 20, "twenty fields: " + c + " has " + own);
        for (Method m : c.getDeclaredMethods()) {
            must(m.getParameterCount() <= 7, "seven parameters: " + m);
        }
    }

    static void banned(String code) {
        String[] never = {"->", "::", "\\bfinally\\b", "\\bsynchronized\\b", "\\bassert\\b", "\\bcatch\\b", "Exact\\(", "\\bdouble\\b",
            "\\bfloat\\b", "java\\.util\\.(?!Arrays;|NoSuchElementException;)", "\\bSystem\\.(?!arraycopy)", "\" *\\+|\\+ *\"",
            "\\bstatic *\\{", "\\bwhile *\\(true", "for *\\(;;", "\\b(Random|Thread|Object|equals|hashCode|toString)\\b"};
        for (String pattern : never) {
            Matcher m = Pattern.compile(pattern).matcher(code);
            must(!m.find(), "not in this Java: " + pattern);
        }
    }

    static void lengths(String code) {
        int start = -1;
        String[] lines = code.split("\n");
        for (int i = 0; i < lines.length; i++) {
            if (lines[i].matches("( {4}| {8})[a-zA-Z].*\\) *(throws \\w+ *)?\\{")) {
                start = i;
            } else if (start >= 0 && lines[i].matches("( {4}| {8})}")) {
                must(i - start <= 60, "sixty lines: " + lines[start]);
                start = -1;
            }
        }
    }

    /** Of chains of calls, which are read from the compiled class, none may be deeper than eight, recursions taken once. */
    static void depths() {
        Map<String, Set<String>> calls = callsOf(disassembled());
        must(calls.size() > FACE.length, "methods are found");
        for (String f : FACE) {
            String method = "BorrowedLives." + f.replaceAll(".* |\\(.*", "");
            List<String> chain = deepest(method, calls, new ArrayList<>());
            must(calls.containsKey(method) && chain.size() <= 8, "eight deep: " + chain);
        }
    }

    static String disassembled() {
        List<String> arguments = new ArrayList<>(List.of("-p", "-c", "-cp", System.getProperty("java.class.path"), "BorrowedLives"));
        for (Class<?> inside : BorrowedLives.class.getDeclaredClasses()) {
            arguments.add(inside.getName());
        }
        StringWriter text = new StringWriter();
        PrintWriter out = new PrintWriter(text);
        int failed = ToolProvider.findFirst("javap").orElseThrow().run(out, out, arguments.toArray(new String[0]));
        must(failed == 0, "javap: " + text);
        return text.toString();
    }

    /** Of each method, as Class.name, the methods of the same file that it calls. */
    static Map<String, Set<String>> callsOf(String text) {
        Pattern classLine = Pattern.compile("^(?:\\w+ )*class (\\S+) \\{");
        Pattern methodLine = Pattern.compile("^  .*?(\\S+)\\(.*\\).*;");
        Pattern callLine = Pattern.compile("^ .*: invoke.*// Method (?:([\\w$]+)\\.)?\"?([\\w<>]+)\"?:");
        Map<String, Set<String>> calls = new LinkedHashMap<>();
        String inClass = "";
        String inMethod = "";
        for (String line : text.split("\\R")) {
            Matcher isClass = classLine.matcher(line);
            Matcher isMethod = methodLine.matcher(line);
            Matcher isCall = callLine.matcher(line);
            if (isClass.find()) {
                inClass = isClass.group(1);
            } else if (isCall.find()) {
                calls.get(inMethod).add((isCall.group(1) == null ? inClass : isCall.group(1)) + "." + isCall.group(2));
            } else if (isMethod.find()) {
                inMethod = inClass + "." + (isMethod.group(1).equals(inClass) ? "<init>" : isMethod.group(1));
                calls.putIfAbsent(inMethod, new TreeSet<>());
            }
        }
        calls.values().forEach(called -> called.retainAll(calls.keySet()));
        return calls;
    }

    static List<String> deepest(String method, Map<String, Set<String>> calls, List<String> above) {
        List<String> open = new ArrayList<>(above);
        open.add(method);
        List<String> deepest = open;
        for (String called : calls.getOrDefault(method, Set.of())) {
            List<String> chain = open.contains(called) ? open : deepest(called, calls, open);
            deepest = chain.size() > deepest.size() ? chain : deepest;
        }
        return deepest;
    }
}
