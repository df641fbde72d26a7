import java.lang.management.ManagementFactory;
import java.lang.reflect.Constructor;
import java.lang.reflect.Field;
import java.lang.reflect.Method;
import java.lang.reflect.Modifier;
import java.nio.file.Files;
import java.nio.file.Path;
import java.util.Arrays;
import java.util.HashSet;
import java.util.List;
import java.util.Set;
import java.util.TreeSet;
import java.util.regex.Matcher;
import java.util.regex.Pattern;

/** The public face, rules of LANGUAGE.md that can be seen from outside, and the room that calls take. */
public final class RulesTest {
    private static final String[] FACE = {"int feed(int,int,int,int,int)", "boolean end(int)", "int land()",
        "int fault()", "int thing(int,int)", "int mill(int,int)", "int man(int,int)", "int passage(int,int)",
        "int now(int)", "int air(int,int)", "int force(int,int)", "int tie(int,int)", "int walk(int,int)",
        "int cough()", "int hours(int)", "int undo()", "int letter(int,int,int,int)", "int heaviest(int,int,int,int)",
        "int best(int,int,int)", "int soonest(int,int)", "int reach(int,int)", "int dry(int,int,int)", "int which()",
        "int ties(int,int)", "int turn(int)", "int guard(int)", "int prices()", "int price(int)", "int later(int,int)",
        "int meet(int,int)", "int drawn(int,int)", "int odds(int,int,int)", "int log(int)", "int logged(int)",
        "int sentence()", "int said(int)", "boolean image(int)", "boolean restore(int)", "int count(int)"};

    public static void main(String[] args) throws Exception {
        theFace();
        theClassesInside();
        theSource();
        theRoom();
        Checks.finish();
    }

    private static String form(Method m) {
        StringBuilder text = new StringBuilder(m.getReturnType().getSimpleName()).append(' ').append(m.getName()).append('(');
        for (int k = 0; k < m.getParameterCount(); k++) {
            text.append(k == 0 ? "" : ",").append(m.getParameterTypes()[k].getSimpleName());
        }
        return text.append(')').toString();
    }

    private static void theFace() {
        Class<?> c = BreathingHill.class;
        Checks.due("rule 1: public and final", Modifier.isPublic(c.getModifiers()) && Modifier.isFinal(c.getModifiers()), true);
        Set<String> open = new TreeSet<>();
        Set<String> publicNames = new HashSet<>();
        for (Method m : c.getDeclaredMethods()) {
            if (!Modifier.isPrivate(m.getModifiers())) {
                open.add(form(m));
                publicNames.add(m.getName());
                Checks.due("rule 1: public and no static: " + m, Modifier.isPublic(m.getModifiers()) && !Modifier.isStatic(m.getModifiers()), true);
            }
        }
        Checks.due("rule 1: the face is " + open, open.equals(new TreeSet<>(Arrays.asList(FACE))), true);
        for (Class<?> each : withClassesInside()) {
            for (Method m : each.getDeclaredMethods()) {
                boolean face = each == c && Modifier.isPublic(m.getModifiers());
                Checks.due("rule 1: another method bears a public name: " + m, !face && publicNames.contains(m.getName()), false);
                Checks.due("rule 11: at most seven parameters: " + m, m.getParameterCount() <= 7, true);
            }
        }
        for (Field f : c.getDeclaredFields()) {
            boolean none = f.getName().equals("NONE");
            Checks.due("rule 1: fields are private: " + f, Modifier.isPrivate(f.getModifiers()), !none);
        }
        Checks.due("the constant", BreathingHill.NONE, -1);
        Constructor<?>[] made = c.getDeclaredConstructors();
        Checks.due("rule 1: one constructor", made.length, 1);
        Checks.due("rule 1: without parameters", made[0].getParameterCount(), 0);
    }

    private static List<Class<?>> withClassesInside() {
        java.util.ArrayList<Class<?>> all = new java.util.ArrayList<>(Arrays.asList(BreathingHill.class.getDeclaredClasses()));
        all.add(BreathingHill.class);
        return all;
    }

    private static void theClassesInside() {
        Checks.due("rule 11: some twelve classes", withClassesInside().size() <= 12, true);
        for (Class<?> each : withClassesInside()) {
            int own = 0;
            for (Field f : each.getDeclaredFields()) {
                boolean still = Modifier.isStatic(f.getModifiers());
                own += still ? 0 : 1;
                Checks.due("rule 5: static fields are final: " + f, still && !Modifier.isFinal(f.getModifiers()), false);
            }
            Checks.due("rule 11: some twenty fields: " + each, own <= 20, true);
            Checks.due("rule 1: static: " + each, each == BreathingHill.class || Modifier.isStatic(each.getModifiers()), true);
        }
    }

    private static void theSource() throws Exception {
        String source = Files.readString(Path.of("src/main/java/BreathingHill.java"));
        String bare = source.replaceAll("(?s)/\\*.*?\\*/", "").replaceAll("//[^\n]*", "").replaceAll("\"[^\"\n]*\"", "\"\"");
        String[] never = {"->", "::", "\\bcatch\\b", "\\bfinally\\b", "\\bsynchronized\\b", "\\bassert\\b", "\\bpackage\\b",
            "\\bdouble\\b", "\\bfloat\\b", "\\bSystem\\.(?!arraycopy)", "\\bRandom\\b", "\\bThread\\b", "Exact\\(",
            "\\.ordinal\\(", "\\.hashCode\\(", "\\.equals\\(", "\\btoString\\b", "\"\" \\+", "\\+ \"\"", "\\bvar\\b", "\\bInteger\\.parse",
            "\\bwhile \\(true\\)", "for \\(;;\\)", "\\bString\\.", "\\bObject\\b"};
        for (String each : never) {
            Checks.due("rules 3 to 10: '" + each + "' stands in the source", Pattern.compile(each).matcher(bare).find(), false);
        }
        Matcher imports = Pattern.compile("(?m)^import (.*);$").matcher(source);
        while (imports.find()) {
            Checks.due("rule 4: import " + imports.group(1), imports.group(1).equals("java.util.NoSuchElementException"), true);
        }
        Checks.due("rule 3: signs 1 to 127 alone", source.chars().allMatch(sign -> sign > 0 && sign < 128), true);
        int begin = 0;
        String[] lines = source.split("\n");
        for (int k = 0; k < lines.length; k++) {
            if (lines[k].matches("(    |        )[a-zA-Z].*\\) (throws \\w+ )?\\{")) {
                begin = k;
            }
            if (lines[k].matches("(    |        )\\}")) {
                Checks.due("rule 11: a method of some sixty lines ends at line " + (k + 1), k - begin <= 60 || lines[k].length() == 5, true);
            }
        }
    }

    private static long taken() {
        return ((com.sun.management.ThreadMXBean) ManagementFactory.getThreadMXBean()).getThreadAllocatedBytes(Thread.currentThread().getId());
    }

    /** The dearest calls, some 500 of them: what they make stays far below the room. */
    private static void theRoom() {
        dearestCalls();
        long before = taken();
        dearestCalls();
        long all = taken() - before;
        System.out.println("an object and some 500 of its dearest calls take " + all + " bytes");
        Checks.due("an object and its calls take little room", all < 200_000, true);
    }

    private static void dearestCalls() {
        BreathingHill x = new BreathingHill();
        int[] land = {0x7468696e, 0x67206120, 0x30203020, 0x3120303b, 0x20202020, 0x7468696e, 0x67206220, 0x30203020,
            0x3120303b, 0x20202020};
        x.feed(land[0], land[1], land[2], land[3], land[4]);
        x.feed(land[5], land[6], land[7], land[8], land[9]);
        int lines = x.land();
        int sum = lines == 2 ? 0 : 1;
        for (int k = 0; k < 100; k++) {
            sum += x.odds(0, 30, k) == -1 ? 1 : 0;
            sum += x.best(0, 0, 1) == -1 ? 1 : 0;
            sum += x.heaviest(0, 0, 0, 400) == -2 ? 1 : 0;
            sum += x.drawn(1, k) == -1 ? 1 : 0;
            sum += x.later(1, 400) == -1 ? 1 : 0;
        }
        Checks.due("none of them was refused", sum, 0);
    }
}
