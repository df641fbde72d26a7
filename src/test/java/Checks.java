import java.nio.charset.StandardCharsets;
import java.util.NoSuchElementException;

/** What the tests share: counting wrong answers, and putting texts on the tape. */
final class Checks {
    private static int checked = 0;
    private static int wrong = 0;

    private Checks() {
    }

    static void due(String call, long got, long want) {
        checked++;
        if (got != want) {
            wrong++;
            System.out.println(call + " answered " + got + ", due is " + want);
        }
    }

    static void due(String call, boolean got, boolean want) {
        due(call, got ? 1 : 0, want ? 1 : 0);
    }

    /** Whether thing(t, what) throws the exception that is due. */
    static void dueNoThing(BreathingHill x, int t, int what) {
        boolean thrown = false;
        try {
            x.thing(t, what);
        } catch (NoSuchElementException e) {
            thrown = true;
        }
        due("thing(" + t + ", " + what + ") throws", thrown, true);
    }

    static void put(BreathingHill x, String text) {
        put(x, text.getBytes(StandardCharsets.ISO_8859_1));
    }

    static void put(BreathingHill x, byte[] bytes) {
        x.end(0);
        for (int at = 0; at < bytes.length; at += 20) {
            x.feed(four(bytes, at), four(bytes, at + 4), four(bytes, at + 8), four(bytes, at + 12), four(bytes, at + 16));
        }
        x.end(bytes.length);
    }

    private static int four(byte[] bytes, int at) {
        int number = 0;
        for (int k = at; k < at + 4; k++) {
            number = number << 8 | (k < bytes.length ? bytes[k] & 255 : 0);
        }
        return number;
    }

    /** A new object with a LAND that has no FAULT. */
    static BreathingHill hill(String land) {
        BreathingHill x = new BreathingHill();
        put(x, land);
        if (x.land() < 0) {
            due("land() of " + land + " has a fault", x.fault(), 0);
        }
        return x;
    }

    static int log(BreathingHill x, String text, int lives) {
        put(x, text);
        return x.log(lives);
    }

    static int sentence(BreathingHill x, String text) {
        put(x, text);
        return x.sentence();
    }

    static int which(BreathingHill x, int valley, int hour, int hoursInside, int more) {
        put(x, new byte[] {(byte) valley, (byte) hour, (byte) hoursInside, (byte) more});
        return x.which();
    }

    static void passTo(BreathingHill x, int hour) {
        while (x.now(0) < hour) {
            x.hours(Math.min(60, hour - x.now(0)));
        }
    }

    /** A text of a certain length, with blanks behind what it says. */
    static String padded(String text, int length) {
        return text + " ".repeat(length - text.length());
    }

    static void finish() {
        System.out.println(checked + " answers looked at, " + wrong + " not as due");
        if (wrong != 0 || checked == 0) {
            System.exit(1);
        }
    }
}
