/** Promises 6 to 12, 16 and the HOUR itself: what is so, and how things and mills go. */
public final class StateTest {
    private static final String LAND = "long 6 5;breath 3 1 3 1;force 4;fade 5;passage 3 2 5;passage 2 9 1;"
        + "thing otto 0 3 2 1;thing kiki 0 0 4 0;thing lo 1 4 2 2;thing pila 0 5 9 7 tied;"
        + "mill la 0 5;mill loo 1 0;man po 0 0;man bo 1 4;";

    public static void main(String[] args) throws IllegalAccessException {
        Checks.run(StateTest.class);
    }

    private static BreathingHill land() {
        return Checks.hill(LAND);
    }

    private static void row(String name, BreathingHill x, int t, int... want) {
        for (int what = 0; what < want.length; what++) {
            Checks.due(name + ": thing(" + t + ", " + what + ")", x.thing(t, what), want[what]);
        }
    }

    private static void promise06Thing() {
        BreathingHill x = land();
        row("6", x, 0, 0, 3, -1, -1, 1, 0, 2, 0);
        row("6", x, 2, 1, 4, -1, -1, 2, 0, 2, 0);
        row("6", x, 3, 0, 5, -1, -1, 7, 1, 9, 0);
        x.hours(1);
        row("6 inside", x, 1, 2, 1, 1, 0, 0, 0, 4, 0);
        row("6 lost", x, 2, 3, -1, -1, -1, 2, 0, 2, 0);
        x.hours(1);
        row("6 beyond", x, 1, 1, 0, -1, -1, 1, 0, 4, 1);
        int[][] none = {{-1, 0}, {4, 0}, {0, -1}, {0, 8}, {4, 8}, {8, 0}, {Integer.MAX_VALUE, 0}, {0, Integer.MIN_VALUE}};
        for (int[] pair : none) {
            Checks.dueNoThing(x, pair[0], pair[1]);
        }
        row("6 a call that throws changes nothing", x, 1, 1, 0, -1, -1, 1, 0, 4, 1);
    }

    private static void promise06Tables() {
        BreathingHill x = Checks.hill("breath 1 0 1 0;passage 2 9 1;thing a 1 0 1 7;");
        // valley 1 breathes the other way: in HOUR 0 it is carried from the cleft
        x.hours(1);
        row("6 carried out", x, 0, 1, 4, -1, -1, 7, 0, 1, 0);
        x.hours(1);
        row("6 carried in", x, 0, 1, 0, -1, -1, 7, 0, 1, 0);
    }

    private static void promise07Mill() {
        BreathingHill x = Checks.hill("long 20 20;breath 2 1 2 1;force 2;fade 5;mill a 0 9;mill b 1 10;mill c 1 0;");
        x.hours(6);
        int[][] want = {{0, 9, 4}, {1, 10, 0}, {1, 0, 4}};
        for (int m = 0; m < want.length; m++) {
            for (int what = 0; what < 3; what++) {
                Checks.due("7: mill(" + m + ", " + what + ")", x.mill(m, what), want[m][what]);
            }
        }
        Checks.due("7: mill(0, 3)", x.mill(0, 3), -1);
        Checks.due("7: mill(0, -1)", x.mill(0, -1), -1);
        Checks.due("7: mill(3, 0)", x.mill(3, 0), -1);
        Checks.due("7: mill(-1, 0)", x.mill(-1, 0), -1);
        Checks.due("7: mill(4, 0)", x.mill(4, 0), -1);
        BreathingHill y = Checks.hill("breath 2 0 2 0;held 1;mill a 0 9;");
        y.hours(10);
        Checks.due("7: the breath that is held", y.mill(0, 2), 6);
    }

    private static void promise08Man() {
        BreathingHill x = land();
        int[][] want = {{0, 0, 0}, {1, 4, 0}};
        for (int m = 0; m < want.length; m++) {
            for (int what = 0; what < 3; what++) {
                Checks.due("8: man(" + m + ", " + what + ")", x.man(m, what), want[m][what]);
            }
        }
        x.walk(1, 0);
        Checks.due("8: hours walked", x.man(1, 2), 6);
        Checks.due("8: his cell", x.man(1, 1), 0);
        x.hours(3);
        Checks.due("8: standing is no walking", x.man(1, 2), 6);
        x.walk(1, 1);
        Checks.due("8: hours walked in all", x.man(1, 2), 6 + x.now(0) - 9);
        Checks.due("8: another man", x.man(0, 2), 0);
        Checks.due("8: man(0, 3)", x.man(0, 3), -1);
        Checks.due("8: man(0, -1)", x.man(0, -1), -1);
        Checks.due("8: man(2, 0)", x.man(2, 0), -1);
        Checks.due("8: man(-1, 0)", x.man(-1, 0), -1);
    }

    private static void promise09Passage() {
        BreathingHill x = land();
        int[][] want = {{3, 2, 5, 0}, {2, 9, 1, 0}};
        for (int p = 0; p < want.length; p++) {
            for (int what = 0; what < 4; what++) {
                Checks.due("9: passage(" + p + ", " + what + ")", x.passage(p, what), want[p][what]);
            }
        }
        x.hours(1);
        Checks.due("9: kiki is in it", x.passage(1, 3), 2);
        x.hours(2);
        Checks.due("9: otto is in it", x.passage(0, 3), 1);
        Checks.due("9: kiki is out", x.passage(1, 3), 0);
        Checks.due("9: passage(0, 4)", x.passage(0, 4), -1);
        Checks.due("9: passage(0, -1)", x.passage(0, -1), -1);
        Checks.due("9: passage(2, 0)", x.passage(2, 0), -1);
        Checks.due("9: passage(-1, 3)", x.passage(-1, 3), -1);
    }

    private static void now(String name, BreathingHill x, int... want) {
        for (int what = 0; what < want.length; what++) {
            Checks.due("10 " + name + ": now(" + what + ")", x.now(what), want[what]);
        }
    }

    private static void promise10Now() {
        BreathingHill x = land();
        now("at first", x, 0, 0, 1, 0, 0, 11, 4);
        x.hours(3);
        now("then", x, 3, 0, 0, 1, 4, 8, 2);
        x.hours(1);
        now("then", x, 4, 0, 2, 1, 4, 8, 2);
        Checks.passTo(x, 8);
        Checks.due("10: the next breath", x.now(1), 1);
        Checks.due("10: its air", x.now(2), 1);
        Checks.due("10: now(7)", x.now(7), -1);
        Checks.due("10: now(-1)", x.now(-1), -1);
        BreathingHill y = Checks.hill("breath 1 0 1 0;");
        Checks.passTo(y, 998);
        now("near the end", y, 998, 499, 1, 0, 0, 0, 0);
        Checks.passTo(y, 1000);
        now("all over", y, 1000, 500, 0, 0, 0, 0, 0);
    }

    private static void promise11Air() {
        BreathingHill x = Checks.hill("breath 2 1 3 0;held 2;");
        int[] whole = {1, 1, 0, 2, 2, 2};
        int[] other = {0, 2, 1};
        for (int hour = 0; hour < 1000; hour++) {
            if (hour % 200 == 0) {
                x = Checks.hill("breath 2 1 3 0;held 2;");
            }
            int want = hour / 6 == 2 ? 0 : whole[hour % 6];
            Checks.due("11: air(0, " + hour + ")", x.air(0, hour), want);
            Checks.due("11: air(1, " + hour + ")", x.air(1, hour), other[want]);
        }
        Checks.due("11: air(0, -1)", x.air(0, -1), -1);
        Checks.due("11: air(0, 1000)", x.air(0, 1000), -1);
        Checks.due("11: air(2, 0)", x.air(2, 0), -1);
        Checks.due("11: air(-1, 0)", x.air(-1, 0), -1);
        BreathingHill y = Checks.hill("breath 1 12 1 12;held 0;");
        Checks.due("11: breath 0 may be held", y.air(0, 0), 0);
        Checks.due("11: not the next one", y.air(0, 26), 1);
        Checks.due("11: the last still", y.air(1, 26 + 25), 0);
    }

    private static void promise12Force() {
        BreathingHill x = Checks.hill("long 20 7;force 3;fade 5;");
        for (int cell = 0; cell < 20; cell++) {
            Checks.due("12: force(0, " + cell + ")", x.force(0, cell), 3 - cell / 5);
            Checks.due("12: force(1, " + cell + ")", x.force(1, cell), cell < 7 ? 3 - cell / 5 : -1);
        }
        Checks.due("12: force(0, 20)", x.force(0, 20), -1);
        Checks.due("12: force(0, -1)", x.force(0, -1), -1);
        Checks.due("12: force(2, 0)", x.force(2, 0), -1);
        Checks.due("12: force(-1, 0)", x.force(-1, 0), -1);
        BreathingHill y = Checks.hill("long 20 7;force 2;fade 1;");
        Checks.due("12: 0 at least", y.force(0, 19), 0);
    }

    private static void promise16Hours() {
        BreathingHill x = land();
        Checks.due("16: hours(0)", x.hours(0), -1);
        Checks.due("16: hours(-1)", x.hours(-1), -1);
        Checks.due("16: hours(61)", x.hours(61), -1);
        Checks.due("16: none went by", x.now(0), 0);
        Checks.due("16: hours(1)", x.hours(1), 1);
        Checks.due("16: hours(60)", x.hours(60), 60);
        Checks.due("16: the hour", x.now(0), 61);
        Checks.passTo(x, 970);
        Checks.due("16: those that are left", x.hours(60), 30);
        Checks.due("16: all over", x.now(0), 1000);
        Checks.due("16: none is left", x.hours(1), 0);
        Checks.due("16: all over still", x.now(0), 1000);
    }

    /** How far things of each WEIGHT are carried by each FORCE, and what is lost. */
    private static void promise16Carried() {
        for (int force = 1; force <= 9; force++) {
            for (int weight = 1; weight <= 9; weight++) {
                for (int fade = 1; fade <= 20; fade += 3) {
                    carried(force, weight, fade);
                }
            }
        }
    }

    private static void carried(int force, int weight, int fade) {
        BreathingHill x = Checks.hill("long 12 12;breath 1 0 1 0;force " + force + ";fade " + fade + ";thing a 0 7 "
            + weight + " 0;thing b 1 7 " + weight + " 0;thing c 0 0 " + weight + " 0;thing d 0 7 " + weight + " 0 tied;");
        int cells = Math.max(0, force - 7 / fade) / weight;
        String name = "16: force " + force + " weight " + weight + " fade " + fade;
        x.hours(1);
        row(name, x, 0, 0, Math.max(0, 7 - cells));
        row(name, x, 1, 7 + cells > 11 ? 3 : 1, 7 + cells > 11 ? -1 : 7 + cells);
        row(name + " no passage", x, 2, 0, 0);
        row(name + " tied", x, 3, 0, 7);
    }

    /** Which passage a thing goes into. */
    private static void promise16Passages() {
        String passages = "passage 2 2 0;passage 2 1 0;passage 2 5 0;passage 2 9 0;";
        int[] want = {0, 0, 2, 2, 2, 3, 3, 3, 3};
        for (int weight = 1; weight <= 9; weight++) {
            BreathingHill x = Checks.hill("force 9;" + passages + "thing a 0 0 " + weight + " 0;thing b 0 1 " + weight + " 0;");
            x.hours(1);
            row("16: into a passage by weight " + weight, x, 0, 2, 1, want[weight - 1], 0);
            row("16: not at the cleft ahead of the hour", x, 1, 0, 0, -1, -1);
        }
        BreathingHill x = Checks.hill("force 5;" + passages + "thing a 0 0 5 0;thing b 0 0 6 0;");
        x.hours(1);
        row("16: as strong as it is heavy", x, 0, 2, 1, 2, 0);
        row("16: not as strong", x, 1, 0, 0, -1, -1);
        BreathingHill y = Checks.hill("force 9;passage 2 4 0;thing a 0 0 5 0;");
        y.hours(5);
        row("16: none so wide", y, 0, 0, 0, -1, -1);
    }

    /** Going on inside, standing still, coming back, coming out beyond altered. */
    private static void promise16Inside() {
        BreathingHill x = Checks.hill("breath 2 1 3 0;passage 4 9 3;thing a 0 0 1 6;thing b 1 0 1 6;");
        int[] far = {1, 2, 2, 1};
        for (int hour = 0; hour < far.length; hour++) {
            x.hours(1);
            row("16: inside after " + hour, x, 0, 2, far[hour], 0, 0, 6);
        }
        x.hours(1);
        row("16: out where it went in, as it was", x, 0, 0, 0, -1, -1, 6, 0, 1, 0);
        x.hours(1);
        row("16: carried out the hour behind", x, 0, 0, 4, -1, -1, 6, 0, 1, 0);
        BreathingHill y = Checks.hill("breath 3 1 3 0;held 1;passage 4 9 3;thing a 0 0 1 6;thing b 1 0 9 6;thing c 1 0 1 7;");
        Checks.passTo(y, 3);
        row("16: three far", y, 0, 2, 3, 0, 0, 6);
        y.hours(4);
        row("16: in valley 0", y, 0, 0, 0, -1, -1, 6, 0, 1, 0);
        y.hours(7);
        row("16: held", y, 0, 0, 0, -1, -1, 6, 0, 1, 0);
        y.hours(1);
        row("16: in again", y, 0, 2, 1, 0, 0, 6, 0, 1, 0);
        BreathingHill z = Checks.hill("breath 4 1 3 0;passage 3 9 3;thing a 0 0 1 6;thing b 1 0 5 6;");
        z.hours(3);
        row("16: beyond, altered from 0 again", z, 0, 1, 0, -1, -1, 1, 0, 1, 1);
        z.hours(1);
        row("16: carried on beyond", z, 0, 1, 4, -1, -1, 1, 0, 1, 1);
        row("16: too heavy", z, 1, 1, 0, -1, -1, 6, 0, 5, 0);
        z.hours(1);
        row("16: still", z, 0, 1, 4, -1, -1, 1, 0, 1, 1);
        z.hours(1);
        row("16: back to the cleft", z, 0, 1, 0, -1, -1, 1, 0, 1, 1);
        z.hours(1);
        row("16: in from valley 1", z, 0, 2, 1, 0, 1, 1, 0, 1, 1);
        z.hours(1);
        row("16: two far", z, 0, 2, 2, 0, 1, 1, 0, 1, 1);
        z.hours(2);
        row("16: back again in valley 1", z, 0, 1, 0, -1, -1, 1, 0, 1, 1);
    }
}
