import java.lang.management.ManagementFactory;
import java.lang.reflect.Constructor;
import java.lang.reflect.Field;
import java.lang.reflect.InvocationTargetException;
import java.lang.reflect.Method;
import java.lang.reflect.Modifier;
import java.nio.file.Files;
import java.nio.file.Path;
import java.util.Arrays;
import java.util.Comparator;
import java.util.HashSet;
import java.util.List;
import java.util.NoSuchElementException;
import java.util.Random;
import java.util.Set;
import java.util.TreeSet;
import java.util.regex.Matcher;
import java.util.regex.Pattern;
import java.util.stream.Stream;

/** The public face, rules of LANGUAGE.md that can be seen from outside, and the room that calls take. */
public final class RulesTest {
    private static final String[] FACE = {"int feed(int,int,int,int,int)", "boolean end(int)", "int land()",
        "int fault()", "int thing(int,int)", "int mill(int,int)", "int man(int,int)", "int passage(int,int)",
        "int now(int)", "int air(int,int)", "int force(int,int)", "int tie(int,int)", "int walk(int,int)",
        "int cough()", "int hours(int)", "int undo()", "int letter(int,int,int,int)", "int heaviest(int,int,int,int)",
        "int best(int,int,int)", "int soonest(int,int)", "int reach(int,int)", "int dry(int,int,int)", "int which()",
        "int ties(int,int)", "int turn(int)", "int guard(int)", "int prices()", "int price(int)", "int later(int,int)",
        "int meet(int,int)", "int drawn(int,int)", "int odds(int,int,int)", "int log(int)", "int logged(int)",
        "int sentence()", "int said(int)", "boolean image(int)", "boolean restore(int)", "int count(int)"};

    public static void main(String[] args) throws Exception {
        theFace();
        theClassesInside();
        theSource();
        theRoom();
        theTests();
        nothingElseIsThrown();
        Checks.finish();
    }

    private static String form(Method m) {
        StringBuilder text = new StringBuilder(m.getReturnType().getSimpleName()).append(' ').append(m.getName()).append('(');
        for (int k = 0; k < m.getParameterCount(); k++) {
            text.append(k == 0 ? "" : ",").append(m.getParameterTypes()[k].getSimpleName());
        }
        return text.append(')').toString();
    }

    private static void theFace() {
        Class<?> c = BreathingHill.class;
        Checks.due("rule 1: public and final", Modifier.isPublic(c.getModifiers()) && Modifier.isFinal(c.getModifiers()), true);
        Set<String> open = new TreeSet<>();
        Set<String> publicNames = new HashSet<>();
        for (Method m : c.getDeclaredMethods()) {
            if (!Modifier.isPrivate(m.getModifiers())) {
                open.add(form(m));
                publicNames.add(m.getName());
                Checks.due("rule 1: public and no static: " + m, Modifier.isPublic(m.getModifiers()) && !Modifier.isStatic(m.getModifiers()), true);
            }
        }
        Checks.due("rule 1: the face is " + open, open.equals(new TreeSet<>(Arrays.asList(FACE))), true);
        for (Class<?> each : withClassesInside()) {
            for (Method m : each.getDeclaredMethods()) {
                boolean face = each == c && Modifier.isPublic(m.getModifiers());
                Checks.due("rule 1: another method bears a public name: " + m, !face && publicNames.contains(m.getName()), false);
                Checks.due("rule 11: at most seven parameters: " + m, m.getParameterCount() <= 7, true);
            }
        }
        for (Field f : c.getDeclaredFields()) {
            boolean none = f.getName().equals("NONE");
            Checks.due("rule 1: fields are private: " + f, Modifier.isPrivate(f.getModifiers()), !none);
        }
        Checks.due("the constant", BreathingHill.NONE, -1);
        Constructor<?>[] made = c.getDeclaredConstructors();
        Checks.due("rule 1: one constructor", made.length, 1);
        Checks.due("rule 1: without parameters", made[0].getParameterCount(), 0);
    }

    private static List<Class<?>> withClassesInside() {
        java.util.ArrayList<Class<?>> all = new java.util.ArrayList<>(Arrays.asList(BreathingHill.class.getDeclaredClasses()));
        all.add(BreathingHill.class);
        return all;
    }

    private static void theClassesInside() {
        Checks.due("rule 11: some twelve classes", withClassesInside().size() <= 12, true);
        for (Class<?> each : withClassesInside()) {
            int own = 0;
            for (Field f : each.getDeclaredFields()) {
                boolean still = Modifier.isStatic(f.getModifiers());
                own += still ? 0 : 1;
                Checks.due("rule 5: static fields are final: " + f, still && !Modifier.isFinal(f.getModifiers()), false);
            }
            Checks.due("rule 11: some twenty fields: " + each, own <= 20, true);
            Checks.due("rule 1: static: " + each, each == BreathingHill.class || Modifier.isStatic(each.getModifiers()), true);
        }
    }

    private static void theSource() throws Exception {
        String source = Files.readString(Path.of("src/main/java/BreathingHill.java"));
        String bare = source.replaceAll("(?s)/\\*.*?\\*/", "").replaceAll("//[^\n]*", "").replaceAll("\"[^\"\n]*\"", "\"\"");
        String[] never = {"->", "::", "\\bcatch\\b", "\\bfinally\\b", "\\bsynchronized\\b", "\\bassert\\b", "\\bpackage\\b",
            "\\bdouble\\b", "\\bfloat\\b", "\\bSystem\\.(?!arraycopy)", "\\bRandom\\b", "\\bThread\\b", "Exact\\(",
            "\\.ordinal\\(", "\\.hashCode\\(", "\\.equals\\(", "\\btoString\\b", "\"\" \\+", "\\+ \"\"", "\\bvar\\b", "\\bInteger\\.parse",
            "\\bwhile \\(true\\)", "for \\(;;\\)", "\\bString\\.", "\\bObject\\b"};
        for (String each : never) {
            Checks.due("rules 3 to 10: '" + each + "' stands in the source", Pattern.compile(each).matcher(bare).find(), false);
        }
        Matcher imports = Pattern.compile("(?m)^import (.*);$").matcher(source);
        while (imports.find()) {
            Checks.due("rule 4: import " + imports.group(1), imports.group(1).equals("java.util.NoSuchElementException"), true);
        }
        Checks.due("rule 3: signs 1 to 127 alone", source.chars().allMatch(sign -> sign > 0 && sign < 128), true);
        int begin = 0;
        String[] lines = source.split("\n");
        for (int k = 0; k < lines.length; k++) {
            if (lines[k].matches("(    |        )[a-zA-Z].*\\) (throws \\w+ )?\\{")) {
                begin = k;
            }
            if (lines[k].matches("(    |        )\\}")) {
                Checks.due("rule 11: a method of some sixty lines ends at line " + (k + 1), k - begin <= 60 || lines[k].length() == 5, true);
            }
        }
    }

    private static long taken() {
        return ((com.sun.management.ThreadMXBean) ManagementFactory.getThreadMXBean()).getThreadAllocatedBytes(Thread.currentThread().getId());
    }

    /** The dearest calls, some 500 of them: what they make stays far below the room. */
    private static void theRoom() {
        dearestCalls();
        long before = taken();
        dearestCalls();
        long all = taken() - before;
        System.out.println("an object and some 500 of its dearest calls take " + all + " bytes");
        Checks.due("an object and its calls take little room", all < 200_000, true);
    }

    private static void dearestCalls() {
        BreathingHill x = new BreathingHill();
        int[] land = {0x7468696e, 0x67206120, 0x30203020, 0x3120303b, 0x20202020, 0x7468696e, 0x67206220, 0x30203020,
            0x3120303b, 0x20202020};
        x.feed(land[0], land[1], land[2], land[3], land[4]);
        x.feed(land[5], land[6], land[7], land[8], land[9]);
        int lines = x.land();
        int sum = lines == 2 ? 0 : 1;
        for (int k = 0; k < 100; k++) {
            sum += x.odds(0, 30, k) == -1 ? 1 : 0;
            sum += x.best(0, 0, 1) == -1 ? 1 : 0;
            sum += x.heaviest(0, 0, 0, 400) == -2 ? 1 : 0;
            sum += x.drawn(1, k) == -1 ? 1 : 0;
            sum += x.later(1, 400) == -1 ? 1 : 0;
        }
        Checks.due("none of them was refused", sum, 0);
    }

    /** Each promise has tests named after it, of its ordinary answers and of its edges. */
    private static void theTests() throws Exception {
        for (int promise = 1; promise <= 40; promise++) {
            String name = String.format("void promise%02d", promise);
            int edges = 0;
            int others = 0;
            try (Stream<Path> files = Files.list(Path.of("src/test/java"))) {
                for (Path file : files.toList()) {
                    boolean has = Files.readString(file).contains(name);
                    edges += has && file.getFileName().toString().startsWith("Edges") ? 1 : 0;
                    others += has && !file.getFileName().toString().startsWith("Edges") ? 1 : 0;
                }
            }
            Checks.due("promise " + promise + " has tests of its edges", edges > 0, true);
            Checks.due("promise " + promise + " has other tests", others > 0, true);
        }
    }

    /** Rule 7: whatever the numbers and the state, only thing() throws, and only what the document says. */
    private static void nothingElseIsThrown() throws Exception {
        int[] numbers = {Integer.MIN_VALUE, Integer.MIN_VALUE + 1, -1001, -1000, -32, -9, -2, -1, 0, 1, 2, 3, 4, 5, 7, 8, 9, 10, 15,
            19, 20, 21, 29, 30, 31, 32, 60, 61, 99, 100, 200, 201, 255, 256, 400, 401, 940, 999, 1000, 1001, 65536,
            Integer.MAX_VALUE - 1, Integer.MAX_VALUE};
        Random random = new Random(1);
        Method[] calls = BreathingHill.class.getDeclaredMethods();
        Arrays.sort(calls, Comparator.comparing(Method::getName));
        for (int run = 0; run < 400; run++) {
            BreathingHill x = run % 3 == 0 ? new BreathingHill() : Checks.busy();
            for (int k = 0; k < 400; k++) {
                Method call = calls[random.nextInt(calls.length)];
                if (!Modifier.isPublic(call.getModifiers())) {
                    continue;
                }
                Object[] given = new Object[call.getParameterCount()];
                for (int n = 0; n < given.length; n++) {
                    given[n] = random.nextInt(9) == 0 ? random.nextInt() : numbers[random.nextInt(numbers.length)];
                }
                dueNothingElse(x, call, given);
            }
        }
    }

    private static void dueNothingElse(BreathingHill x, Method call, Object[] given) throws Exception {
        try {
            call.invoke(x, given);
        } catch (InvocationTargetException e) {
            boolean told = call.getName().equals("thing") && e.getCause() instanceof NoSuchElementException;
            Checks.due("rule 7: " + call.getName() + Arrays.toString(given) + " throws " + e.getCause(), told, true);
        }
    }
}
