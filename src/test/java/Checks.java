import java.lang.reflect.InvocationTargetException;
import java.lang.reflect.Method;
import java.nio.charset.StandardCharsets;
import java.util.Arrays;
import java.util.Comparator;
import java.util.NoSuchElementException;
import java.util.function.Supplier;

/** What the tests share: counting wrong answers, and putting texts on the tape. */
final class Checks {
    /** Something in a valley, inside, lost and tied after its first HOUR. */
    static final String LAND = "long 6 5;breath 3 1 3 1;force 4;fade 5;passage 3 2 5;passage 2 9 1;"
        + "thing otto 0 3 2 1;thing kiki 0 0 4 0;thing lo 1 4 2 2;thing pila 0 5 9 7 tied;"
        + "mill la 0 5;mill loo 1 0;man po 0 0;man bo 1 4;";

    private static int checked = 0;
    private static int wrong = 0;
    private static String testing = "";

    private Checks() {
    }

    /** A call, a boolean counting 1 or 0. */
    interface Call {
        int on(BreathingHill x);
    }

    /** Runs every method that is named after a promise, so that none can be forgotten. */
    static void run(Class<?> tests) throws IllegalAccessException {
        Method[] methods = tests.getDeclaredMethods();
        Arrays.sort(methods, Comparator.comparing(Method::getName));
        int ran = 0;
        for (Method each : methods) {
            if (each.getName().startsWith("promise")) {
                testing = each.getName() + ": ";
                each.setAccessible(true);
                try {
                    each.invoke(null);
                } catch (InvocationTargetException e) {
                    wrong++;
                    System.out.println(testing + "threw " + e.getCause());
                    e.getCause().printStackTrace(System.out);
                }
                ran++;
            }
        }
        System.out.println(ran + " tests of " + tests.getName());
        finish();
    }

    static void due(String call, long got, long want) {
        checked++;
        if (got != want) {
            wrong++;
            System.out.println(testing + call + " answered " + got + ", due is " + want);
        }
    }

    static void due(String call, boolean got, boolean want) {
        due(call, got ? 1 : 0, want ? 1 : 0);
    }

    /** Whether thing(t, what) throws the exception that is due. */
    static void dueNoThing(BreathingHill x, int t, int what) {
        boolean thrown = false;
        try {
            x.thing(t, what);
        } catch (NoSuchElementException e) {
            thrown = true;
        }
        due("thing(" + t + ", " + what + ") throws", thrown, true);
    }

    static void put(BreathingHill x, String text) {
        put(x, text.getBytes(StandardCharsets.ISO_8859_1));
    }

    static void put(BreathingHill x, byte[] bytes) {
        x.end(0);
        for (int at = 0; at < bytes.length; at += 20) {
            x.feed(four(bytes, at), four(bytes, at + 4), four(bytes, at + 8), four(bytes, at + 12), four(bytes, at + 16));
        }
        x.end(bytes.length);
    }

    private static int four(byte[] bytes, int at) {
        int number = 0;
        for (int k = at; k < at + 4; k++) {
            number = number << 8 | (k < bytes.length ? bytes[k] & 255 : 0);
        }
        return number;
    }

    /** A new object with a LAND that has no FAULT. */
    static BreathingHill hill(String land) {
        BreathingHill x = new BreathingHill();
        put(x, land);
        if (x.land() < 0) {
            due("land() of " + land + " has a fault", x.fault(), 0);
        }
        return x;
    }

    static int log(BreathingHill x, String text, int lives) {
        put(x, text);
        return x.log(lives);
    }

    static int sentence(BreathingHill x, String text) {
        put(x, text);
        return x.sentence();
    }

    static int which(BreathingHill x, int valley, int hour, int hoursInside, int more) {
        put(x, new byte[] {(byte) valley, (byte) hour, (byte) hoursInside, (byte) more});
        return x.which();
    }

    static void passTo(BreathingHill x, int hour) {
        while (x.now(0) < hour) {
            x.hours(Math.min(60, hour - x.now(0)));
        }
    }

    /**
     * A hill in the midst of things: something in each place, two acts to undo, an image, prices, a
     * LOG that was judged, a SENTENCE, a FAULT, and a tape that is a SENTENCE.
     */
    static BreathingHill busy() {
        BreathingHill x = hill(LAND);
        sentence(x, "not lost");
        x.hours(1);
        x.image(0);
        x.tie(0, 1);
        x.prices();
        log(x, "otto looses;coughs;hour 1;coughs;", 0);
        put(x, "force 0;");
        x.land();
        put(x, "tied and weight < 7");
        return x;
    }

    /** A call that is refused: its answer, and that all stays as it was. */
    static void dueRefused(String name, Call call, int want) {
        dueRefused(name, Checks::busy, call, want);
    }

    static void dueRefused(String name, Supplier<BreathingHill> make, Call call, int want) {
        BreathingHill x = make.get();
        BreathingHill twin = make.get();
        due(name, call.on(x), want);
        dueAlike(name, x, twin, true);
    }

    /** A text that is at FAULT: its answer and kind, and that all stays but for the tape, which is empty. */
    static void dueFault(String text, Call reading, int want, int kind) {
        BreathingHill x = busy();
        BreathingHill twin = busy();
        put(x, text);
        twin.end(0);
        String name = "'" + text.trim() + "' of " + text.length() + " bytes";
        due(name, reading.on(x), want);
        due("fault() of " + name, x.fault(), kind);
        dueAlike(name, x, twin, false);
    }

    private static void dueAlike(String name, BreathingHill x, BreathingHill twin, boolean withFault) {
        dueText(name + ": all stays", whole(x, withFault), whole(twin, withFault));
        dueText(name + ": what can be undone, the tape and the images stay", rest(x), rest(twin));
    }

    static void dueText(String name, String got, String want) {
        checked++;
        if (!got.equals(want)) {
            wrong++;
            System.out.println(testing + name + "\n  it is " + got + "\n  due is " + want);
        }
    }

    /** All that calls tell without changing anything: some 150 calls at most. */
    static String whole(BreathingHill x, boolean withFault) {
        StringBuilder text = new StringBuilder();
        add(text, "count", 8, x::count);
        add(text, "now", 7, x::now);
        for (int t = 0; t < x.count(3); t++) {
            int it = t;
            add(text, "thing", 8, what -> x.thing(it, what));
        }
        for (int m = 0; m < x.count(4); m++) {
            int it = m;
            add(text, "mill", 3, what -> x.mill(it, what));
        }
        for (int m = 0; m < x.count(5); m++) {
            int it = m;
            add(text, "man", 3, what -> x.man(it, what));
        }
        for (int p = 0; p < x.count(2); p++) {
            int it = p;
            add(text, "passage", 4, what -> x.passage(it, what));
        }
        add(text, "air", 9, hour -> x.air(0, hour));
        text.append(" force ").append(x.force(0, 0)).append(' ').append(x.force(0, x.count(0) - 1));
        add(text, "price", 2, x::price);
        add(text, "logged", 4, x::logged);
        add(text, "said", x.said(-1), x::said);
        return withFault ? text.append(" fault ").append(x.fault()).toString() : text.toString();
    }

    private interface Row {
        int at(int k);
    }

    private static void add(StringBuilder text, String name, int many, Row row) {
        text.append(' ').append(name).append(' ').append(many).append(':');
        for (int k = 0; k < many; k++) {
            text.append(' ').append(row.at(k));
        }
    }

    /** What the tape says, what can be undone and what is kept, all of it used up. */
    private static String rest(BreathingHill x) {
        StringBuilder text = new StringBuilder("tape ").append(x.sentence()).append(" fault ").append(x.fault());
        for (int k = 0; k < 9; k++) {
            text.append(" undo ").append(x.undo());
            add(text, "now", 7, x::now);
        }
        for (int k = 0; k < 2; k++) {
            text.append(" restore ").append(x.restore(k)).append(' ').append(x.now(0)).append(' ').append(x.count(0))
                .append(' ').append(x.said(-1));
        }
        return text.toString();
    }

    /** A text of a certain length, with blanks behind what it says. */
    static String padded(String text, int length) {
        return text + " ".repeat(length - text.length());
    }

    static void finish() {
        System.out.println(checked + " answers looked at, " + wrong + " not as due");
        if (wrong != 0 || checked == 0) {
            System.exit(1);
        }
    }
}
