/**
 * Promises 6 to 12 and 16, with the HOUR that goes by, sentence by sentence where a boundary is
 * named: at it, one below, one above; and that all stays where a call is refused.
 */
public final class EdgesOfStateTest {
    private static final int[] NO_INDEX = {-1, -2, Integer.MIN_VALUE, Integer.MAX_VALUE};

    public static void main(String[] args) throws IllegalAccessException {
        Checks.run(EdgesOfStateTest.class);
    }

    private static void row(String name, BreathingHill x, int t, int... want) {
        for (int what = 0; what < want.length; what++) {
            Checks.due(name + ": thing(" + t + ", " + what + ")", x.thing(t, what), want[what]);
        }
    }

    /** One HOUR, the first of a LAND, and the row of the thing 0 behind it. */
    private static BreathingHill afterOne(String land, int... want) {
        BreathingHill x = Checks.hill(land);
        x.hours(1);
        row(land, x, 0, want);
        return x;
    }

    private static String eightThings(String end) {
        StringBuilder text = new StringBuilder();
        for (int t = 0; t < 8; t++) {
            text.append("thing ").append((char) ('a' + t)).append(end);
        }
        return text.toString();
    }

    // ---- promise 6 ----

    /** "NoSuchElementException: no such ones": things */
    private static void promise06NoSuchThing() {
        BreathingHill x = Checks.busy();
        Checks.due("thing(0, 0)", x.thing(0, 0), 0);
        Checks.due("thing(3, 0), the last", x.thing(3, 0), 0);
        Checks.dueNoThing(x, 4, 0);
        Checks.dueNoThing(x, 8, 0);
        for (int t : NO_INDEX) {
            Checks.dueNoThing(x, t, 0);
        }
        BreathingHill full = Checks.hill(eightThings(" 1 3 1 0;"));
        Checks.due("thing(7, 1), the eighth", full.thing(7, 1), 3);
        Checks.dueNoThing(full, 8, 1);
        Checks.dueNoThing(new BreathingHill(), 0, 0);
    }

    /** "NoSuchElementException: no such ones": what */
    private static void promise06NoSuchWhat() {
        BreathingHill x = Checks.busy();
        Checks.due("thing(0, 0)", x.thing(0, 0), 0);
        Checks.due("thing(0, 7)", x.thing(0, 7), 0);
        Checks.dueNoThing(x, 0, 8);
        for (int what : NO_INDEX) {
            Checks.dueNoThing(x, 0, what);
        }
    }

    /** "A call that throws changes nothing" */
    private static void promise06ThrowingChangesNothing() {
        int[][] none = {{4, 0}, {-1, 0}, {0, 8}, {0, -1}, {4, 8}};
        for (int[] pair : none) {
            Checks.dueRefused("thing(" + pair[0] + ", " + pair[1] + ")", x -> {
                Checks.dueNoThing(x, pair[0], pair[1]);
                return 0;
            }, 0);
        }
    }

    /** "1 its CELL, how far in (lost: NONE), 2 its passage (NONE: not inside), 3 .. (NONE: not inside)" */
    private static void promise06NoneWhereItIsNot() {
        BreathingHill x = Checks.busy();
        row("in a valley, tied", x, 0, 0, 1, -1, -1, 1, 1, 2, 0);
        row("inside", x, 1, 2, 1, 1, 0, 0, 0, 4, 0);
        row("lost", x, 2, 3, -1, -1, -1, 2, 0, 2, 0);
        x.hours(1);
        row("beyond", x, 1, 1, 0, -1, -1, 1, 0, 4, 1);
        BreathingHill y = Checks.hill("breath 2 0 2 0;passage 9 9 1;thing a 1 0 1 0 tied;");
        y.hours(2);
        y.tie(0, 0);
        y.hours(1);
        row("from valley 1", y, 0, 2, 1, 0, 1, 0, 0, 1, 0);
        y.cough();
        row("coughed out", y, 0, 0, 0, -1, -1, 0, 0, 1, 0);
    }

    /** "7 how often it came out beyond": 0, 1, 2 */
    private static void promise06HowOftenBeyond() {
        BreathingHill x = Checks.hill("long 20 20;breath 2 0 3 0;force 1;passage 2 1 0;thing a 0 0 1 0;");
        int[] often = {0, 0, 1, 1, 2};
        for (int hour = 0; hour < often.length; hour++) {
            Checks.due("thing(0, 7) in hour " + hour, x.thing(0, 7), often[hour]);
            x.hours(1);
        }
    }

    // ---- promises 7 to 9 ----

    /** "NONE: no such ones" */
    private static void promise07NoSuchOnes() {
        BreathingHill x = Checks.busy();
        Checks.due("mill(0, 0)", x.mill(0, 0), 0);
        Checks.due("mill(1, 0), the last", x.mill(1, 0), 1);
        Checks.due("mill(1, 2), the last what", x.mill(1, 2), 1);
        int[][] none = {{2, 0}, {4, 0}, {-1, 0}, {0, -1}, {0, 3}, {2, 3}, {Integer.MIN_VALUE, 0}, {0, Integer.MAX_VALUE}};
        for (int[] pair : none) {
            Checks.dueRefused("mill(" + pair[0] + ", " + pair[1] + ")", y -> y.mill(pair[0], pair[1]), -1);
        }
        Checks.due("without mills", new BreathingHill().mill(0, 0), -1);
    }

    private static void promise08NoSuchOnes() {
        BreathingHill x = Checks.busy();
        Checks.due("man(0, 0)", x.man(0, 0), 0);
        Checks.due("man(1, 0), the last", x.man(1, 0), 1);
        Checks.due("man(1, 2), the last what", x.man(1, 2), 0);
        int[][] none = {{2, 0}, {4, 0}, {-1, 0}, {0, -1}, {0, 3}, {2, 3}, {Integer.MIN_VALUE, 0}, {0, Integer.MAX_VALUE}};
        for (int[] pair : none) {
            Checks.dueRefused("man(" + pair[0] + ", " + pair[1] + ")", y -> y.man(pair[0], pair[1]), -1);
        }
        Checks.due("without men", new BreathingHill().man(0, 0), -1);
    }

    private static void promise09NoSuchOnes() {
        BreathingHill x = Checks.busy();
        Checks.due("passage(0, 0)", x.passage(0, 0), 3);
        Checks.due("passage(1, 0), the last", x.passage(1, 0), 2);
        Checks.due("passage(1, 3), the last what", x.passage(1, 3), 2);
        int[][] none = {{2, 0}, {4, 0}, {-1, 0}, {0, -1}, {0, 4}, {2, 4}, {-1, 3}, {Integer.MIN_VALUE, 0},
            {0, Integer.MAX_VALUE}};
        for (int[] pair : none) {
            Checks.dueRefused("passage(" + pair[0] + ", " + pair[1] + ")", y -> y.passage(pair[0], pair[1]), -1);
        }
        Checks.due("without passages", new BreathingHill().passage(0, 0), -1);
    }

    /** "things in it, as bits": none, one, all eight */
    private static void promise09ThingsAsBits() {
        BreathingHill x = Checks.hill("passage 9 1 0;passage 9 9 0;" + eightThings(" 0 0 1 0;"));
        Checks.due("none", x.passage(0, 3), 0);
        x.hours(1);
        Checks.due("all eight", x.passage(0, 3), 255);
        Checks.due("none in the other", x.passage(1, 3), 0);
        BreathingHill y = Checks.hill("passage 9 1 0;passage 9 9 0;" + eightThings(" 0 0 9 0;").replace("h 0 0 9 0", "h 0 0 1 0"));
        y.hours(1);
        Checks.due("the eighth alone", y.passage(0, 3), 128);
    }

    // ---- promise 10 ----

    /** "NONE for another what" */
    private static void promise10NoneForAnotherWhat() {
        Checks.due("now(6)", Checks.busy().now(6), 0);
        int[] others = {-1, 7, 8, Integer.MIN_VALUE, Integer.MAX_VALUE};
        for (int what : others) {
            Checks.dueRefused("now(" + what + ")", x -> x.now(what), -1);
        }
    }

    /** "0 the HOUR, 1 the BREATH", at the last HOUR of one and the first of the next */
    private static void promise10BreathByBreath() {
        BreathingHill x = Checks.hill("breath 2 1 3 1;");
        for (int hour = 0; hour < 30; hour++) {
            Checks.due("now(0)", x.now(0), hour);
            Checks.due("now(1) in hour " + hour, x.now(1), hour / 7);
            x.hours(1);
        }
    }

    /** "the AIR in valley 0 (.. all over: 0)" */
    private static void promise10AllOver() {
        BreathingHill x = Checks.hill("breath 1 0 1 0;");
        int[][] want = {{998, 499, 1}, {999, 499, 2}, {1000, 500, 0}};
        for (int[] row : want) {
            Checks.passTo(x, row[0]);
            for (int what = 0; what < 3; what++) {
                Checks.due("now(" + what + ") at " + row[0], x.now(what), row[what]);
            }
        }
        // HOUR 1000 would be the first of a BREATH, its AIR going in
        BreathingHill y = Checks.hill("breath 4 1 4 1;");
        Checks.passTo(y, 1000);
        Checks.due("now(2)", y.now(2), 0);
    }

    /** "things inside, lost ones, those in valley 0, in valley 1, as bits": each of them none and all eight */
    private static void promise10ThingsAsBits() {
        BreathingHill x = Checks.hill("passage 2 9 0;" + eightThings(" 0 0 1 0;"));
        bits("in valley 0", x, 0, 0, 255, 0);
        x.hours(1);
        bits("inside", x, 255, 0, 0, 0);
        x.hours(1);
        bits("in valley 1", x, 0, 0, 0, 255);
        x.hours(3);
        bits("lost", x, 0, 255, 0, 0);
        bits("without things", new BreathingHill(), 0, 0, 0, 0);
    }

    private static void bits(String name, BreathingHill x, int... want) {
        for (int k = 0; k < want.length; k++) {
            Checks.due(name + ": now(" + (3 + k) + ")", x.now(3 + k), want[k]);
        }
    }

    // ---- promise 11 ----

    /** "in an HOUR (0 to 999)" and "NONE: no such ones" */
    private static void promise11NoSuchOnes() {
        BreathingHill x = Checks.hill("breath 1 0 1 0;");
        Checks.due("air(0, 0)", x.air(0, 0), 1);
        Checks.due("air(1, 0)", x.air(1, 0), 2);
        Checks.due("air(0, 998)", x.air(0, 998), 1);
        Checks.due("air(0, 999)", x.air(0, 999), 2);
        Checks.due("air(1, 999)", x.air(1, 999), 1);
        int[][] none = {{0, -1}, {1, -1}, {0, 1000}, {1, 1000}, {0, 1001}, {-1, 0}, {2, 0}, {0, Integer.MAX_VALUE},
            {0, Integer.MIN_VALUE}, {Integer.MAX_VALUE, 0}, {Integer.MIN_VALUE, 0}};
        for (int[] pair : none) {
            Checks.dueRefused("air(" + pair[0] + ", " + pair[1] + ")", y -> y.air(pair[0], pair[1]), -1);
        }
        Checks.passTo(x, 1000);
        Checks.due("air(0, 0) when all are over", x.air(0, 0), 1);
    }

    /** "A BREATH is IN, STILL, OUT, STILL HOURS; HOUR 0 is the first of BREATH 0 .. in valley 1 the other way round" */
    private static void promise11BreathHourByHour() {
        int[][] breaths = {{1, 0, 1, 0}, {1, 1, 1, 1}, {2, 0, 3, 1}, {2, 1, 3, 0}, {12, 12, 12, 12}, {1, 12, 1, 12}, {12, 0, 1, 0}};
        int[] sorts = {1, 0, 2, 0};
        int[] other = {0, 2, 1};
        for (int[] breath : breaths) {
            BreathingHill x = Checks.hill("breath " + breath[0] + " " + breath[1] + " " + breath[2] + " " + breath[3] + ";");
            int hour = 0;
            for (int part = 0; part < 8; part++) {
                for (int k = 0; k < breath[part % 4]; k++) {
                    Checks.due("air(0, " + hour + ")", x.air(0, hour), sorts[part % 4]);
                    Checks.due("air(1, " + hour + ")", x.air(1, hour), other[sorts[part % 4]]);
                    hour++;
                }
            }
            Checks.due("hours of a breath", x.count(6), hour / 2);
        }
    }

    /** "In the BREATH that it holds all HOURS are still" */
    private static void promise11HeldBreath() {
        int[] helds = {0, 1, 2, 98, 99};
        for (int held : helds) {
            BreathingHill x = Checks.hill("breath 2 0 2 0;held " + held + ";");
            for (int hour = Math.max(0, 4 * held - 4); hour < 4 * held + 8; hour++) {
                boolean in = hour % 4 < 2;
                int want = hour / 4 == held ? 0 : in ? 1 : 2;
                Checks.due("held " + held + ": air(0, " + hour + ")", x.air(0, hour), want);
                Checks.due("held " + held + ": air(1, " + hour + ")", x.air(1, hour), want == 0 ? 0 : 3 - want);
            }
        }
        // BREATH 99 begins behind HOUR 999: it may be told, and is never held
        BreathingHill y = Checks.hill("breath 5 1 5 0;held 99;");
        Checks.due("the last hour", y.air(0, 999), 2);
    }

    // ---- promise 12 ----

    /** "NONE: no such ones" */
    private static void promise12NoSuchOnes() {
        BreathingHill x = Checks.busy();
        Checks.due("force(0, 0)", x.force(0, 0), 4);
        Checks.due("force(0, 5), the last", x.force(0, 5), 3);
        Checks.due("force(1, 4), the last", x.force(1, 4), 4);
        int[][] none = {{0, -1}, {0, 6}, {1, 5}, {1, -1}, {-1, 0}, {2, 0}, {0, Integer.MAX_VALUE}, {0, Integer.MIN_VALUE},
            {Integer.MAX_VALUE, 0}, {Integer.MIN_VALUE, 0}};
        for (int[] pair : none) {
            Checks.dueRefused("force(" + pair[0] + ", " + pair[1] + ")", y -> y.force(pair[0], pair[1]), -1);
        }
    }

    /** "FORCE in a CELL: N less CELL / FADE (cut), 0 at least" */
    private static void promise12CutAnd0AtLeast() {
        for (int fade = 1; fade <= 20; fade++) {
            BreathingHill x = Checks.hill("long 20 20;force 3;fade " + fade + ";");
            for (int cell = 0; cell < 20; cell++) {
                int steps = 0;
                while ((steps + 1) * fade <= cell) {
                    steps++;
                }
                int want = steps == 0 ? 3 : steps == 1 ? 2 : steps == 2 ? 1 : 0;
                Checks.due("fade " + fade + ": force(0, " + cell + ")", x.force(0, cell), want);
                Checks.due("fade " + fade + ": force(1, " + cell + ")", x.force(1, cell), want);
            }
        }
    }

    /** "if AIR goes": in still AIR, and when all are over, too */
    private static void promise12IfAirGoes() {
        BreathingHill x = Checks.hill("breath 1 1 1 1;held 0;");
        Checks.due("in a breath that is held", x.force(0, 0), 4);
        Checks.passTo(x, 1000);
        Checks.due("all over", x.force(0, 0), 4);
    }

    // ---- promise 16 ----

    /** "n (1 to 60) HOURS go by: how many did; NONE: not as told" */
    private static void promise16From1To60() {
        int[] some = {1, 2, 59, 60};
        for (int n : some) {
            BreathingHill x = Checks.busy();
            Checks.due("hours(" + n + ")", x.hours(n), n);
            Checks.due("the hour", x.now(0), 1 + n);
            Checks.due("one more act", x.undo(), 2);
            Checks.due("undone", x.now(0), 1);
        }
        int[] none = {0, -1, 61, 62, Integer.MAX_VALUE, Integer.MIN_VALUE};
        for (int n : none) {
            Checks.dueRefused("hours(" + n + ")", x -> x.hours(n), -1);
        }
    }

    /** "Then it is the next HOUR (0 to 999; 1000: all are over)" */
    private static void promise16Till1000() {
        int[] left = {59, 60, 61};
        for (int hours : left) {
            BreathingHill x = Checks.hill("thing a 0 9 9 0;");
            Checks.passTo(x, 1000 - hours);
            Checks.due("hours(60), " + hours + " being left", x.hours(60), Math.min(60, hours));
            Checks.due("the hour", x.now(0), Math.min(1000, 1060 - hours));
        }
        BreathingHill y = Checks.hill("breath 1 0 1 0;force 9;thing a 0 9 9 0;mill m 0 0;");
        Checks.passTo(y, 999);
        Checks.due("in hour 999 it is carried, as in all", y.thing(0, 1), 8);
        Checks.due("hours(1)", y.hours(1), 1);
        Checks.due("HOUR 999 goes by", y.thing(0, 1), 9);
        Checks.due("the mill turned in it", y.mill(0, 2), 1000);
        Checks.due("the hour", y.now(0), 1000);
    }

    /** "1000: all are over" */
    private static void promise16AllAreOver() {
        Checks.dueRefused("hours(1)", EdgesOfStateTest::over, x -> x.hours(1), 0);
        Checks.dueRefused("hours(60)", EdgesOfStateTest::over, x -> x.hours(60), 0);
    }

    private static BreathingHill over() {
        BreathingHill x = Checks.hill("breath 4 1 4 1;passage 9 9 1;thing a 0 0 1 0;thing b 0 5 9 0;mill m 0 0;man p 0 3;");
        Checks.passTo(x, 1000);
        return x;
    }

    /** "it is carried FORCE / WEIGHT cells (cut": WEIGHTS one above, at and below a part of the FORCE */
    private static void promise16CarriedCut() {
        int[] carried = {8, 4, 2, 2, 1, 1, 1, 1, 0};
        for (int weight = 1; weight <= 9; weight++) {
            afterOne("force 8;thing a 0 9 " + weight + " 0;", 0, 9 - carried[weight - 1], -1, -1);
            afterOne("force 8;thing a 1 1 " + weight + " 0;", 1, 1 + carried[weight - 1] > 9 ? -1 : 1 + carried[weight - 1]);
        }
    }

    /** "by FORCE in its CELL": at the CELL where it fades, and beside it; the CELLS it passes are none of it */
    private static void promise16ForceInItsCell() {
        afterOne("force 4;fade 5;thing a 0 4 4 0;", 0, 3);
        afterOne("force 4;fade 5;thing a 0 5 4 0;", 0, 5);
        afterOne("force 4;fade 5;thing a 0 6 3 0;", 0, 5);
        afterOne("force 4;fade 5;thing a 1 4 1 0;", 1, 8);
        afterOne("force 4;fade 5;thing a 1 5 1 0;", 1, 8);
        afterOne("force 1;fade 5;thing a 0 5 1 0;", 0, 5);
    }

    /** "(FORCE and AIR at its beginning)": and none where the AIR stands still or the thing is tied */
    private static void promise16StillOrTied() {
        BreathingHill x = Checks.hill("breath 1 1 1 1;passage 9 9 0;thing a 0 9 2 0;thing b 0 9 2 0 tied;thing c 0 0 1 0 tied;");
        int[] cells = {7, 7, 9, 9};
        for (int cell : cells) {
            x.hours(1);
            row("hour " + x.now(0), x, 0, 0, cell);
            row("tied", x, 1, 0, 9, -1, -1, 0, 1);
            row("tied at the cleft", x, 2, 0, 0, -1, -1, 0, 1);
        }
        afterOne("held 0;thing a 0 9 1 0;", 0, 9);
    }

    /** "beyond the last CELL it is LOST": at the last CELL, one beyond it, two */
    private static void promise16BeyondTheLastCell() {
        afterOne("long 20 9;force 4;thing a 1 3 1 0;", 1, 7, -1, -1);
        afterOne("long 20 9;force 4;thing a 1 4 1 0;", 1, 8, -1, -1);
        afterOne("long 20 9;force 4;thing a 1 5 1 3;", 3, -1, -1, -1, 3, 0, 1, 0);
        afterOne("long 20 9;force 4;thing a 1 6 1 3;", 3, -1, -1, -1, 3, 0, 1, 0);
        BreathingHill x = Checks.hill("long 9 20;breath 1 0 1 0;force 4;thing a 0 4 1 0 tied;thing b 0 5 1 0 tied;");
        x.hours(1);
        x.tie(0, 0);
        x.tie(1, 0);
        x.hours(1);
        row("valley 0: to the last cell", x, 0, 0, 8);
        row("valley 0: beyond it", x, 1, 3, -1);
        BreathingHill y = afterOne("long 1 1;thing a 1 0 4 0;", 3, -1);
        y.hours(20);
        row("lost for good", y, 0, 3, -1, -1, -1, 0, 0, 4, 0);
    }

    /** "to the cleft and on: it stays at CELL 0": one short of it, to it, beyond it */
    private static void promise16ToTheCleft() {
        String setting = "force 4;passage 2 9 1;";
        afterOne(setting + "thing a 0 5 1 0;", 0, 1, -1, -1);
        afterOne(setting + "thing a 0 4 1 0;", 0, 0, -1, -1);
        afterOne(setting + "thing a 0 3 1 0;", 0, 0, -1, -1);
        afterOne(setting + "thing a 0 1 1 0;", 0, 0, -1, -1);
        afterOne(setting + "thing a 0 1 4 0;", 0, 0, -1, -1);
    }

    /** "but if it was at CELL 0 ahead of the HOUR": at 0, at 1 */
    private static void promise16AtTheCleftAheadOfTheHour() {
        afterOne("passage 2 9 1;thing a 0 0 1 0;", 2, 1, 0, 0);
        BreathingHill x = afterOne("passage 2 9 1;thing a 0 1 1 0;", 0, 0, -1, -1);
        x.hours(1);
        row("the next hour", x, 0, 2, 1, 0, 0);
    }

    /** "and FORCE is WEIGHT at least": one below, at it, one above */
    private static void promise16ForceIsWeightAtLeast() {
        afterOne("force 5;passage 2 9 1;thing a 0 0 4 0;", 2, 1, 0, 0);
        afterOne("force 5;passage 2 9 1;thing a 0 0 5 0;", 2, 1, 0, 0);
        afterOne("force 5;passage 2 9 1;thing a 0 0 6 0;", 0, 0, -1, -1);
        afterOne("force 9;passage 2 9 1;thing a 0 0 9 0;", 2, 1, 0, 0);
        afterOne("force 1;passage 2 9 1;thing a 0 0 1 0;", 2, 1, 0, 0);
        afterOne("force 1;passage 2 9 1;thing a 0 0 2 0;", 0, 0, -1, -1);
    }

    /** "the first passage that is as WIDE as its WEIGHT at least (none: it stays)" */
    private static void promise16FirstPassageWideEnough() {
        afterOne("force 9;passage 2 4 0;thing a 0 0 5 0;", 0, 0, -1, -1);
        afterOne("force 9;passage 2 5 0;thing a 0 0 5 0;", 2, 1, 0, 0);
        afterOne("force 9;passage 2 6 0;thing a 0 0 5 0;", 2, 1, 0, 0);
        afterOne("force 9;passage 2 4 0;passage 2 5 0;passage 2 9 0;thing a 0 0 5 0;", 2, 1, 1, 0);
        afterOne("force 9;passage 2 4 0;passage 2 4 0;passage 2 4 0;passage 2 5 0;thing a 0 0 5 0;", 2, 1, 3, 0);
        afterOne("force 9;passage 2 4 0;passage 2 4 0;passage 2 4 0;passage 2 4 0;thing a 0 0 5 0;", 0, 0, -1, -1);
        afterOne("force 9;thing a 0 0 1 0;", 0, 0, -1, -1);
    }

    /** "As far as LENGTH: it comes out beyond at CELL 0": one less far, as far */
    private static void promise16AsFarAsLength() {
        for (int length = 2; length <= 9; length++) {
            BreathingHill x = Checks.hill("long 20 20;breath 12 1 12 1;passage " + length + " 9 1;thing a 0 0 4 0;thing b 1 0 4 0 tied;");
            x.hours(length - 1);
            row("length " + length, x, 0, 2, length - 1, 0, 0, 0, 0, 4, 0);
            x.hours(1);
            row("length " + length, x, 0, 1, 0, -1, -1, 1, 0, 4, 1);
            Checks.passTo(x, 13);
            x.tie(1, 0);
            x.hours(length - 1);
            row("from valley 1, length " + length, x, 1, 2, length - 1, 0, 1, 0, 0, 4, 0);
            x.hours(1);
            row("from valley 1, length " + length, x, 1, 0, 0, -1, -1, 1, 0, 4, 1);
        }
    }

    /** "1 farther, if the AIR goes in in the valley from which it came; 1 less far, if it goes out there" */
    private static void promise16FartherAndLessFar() {
        BreathingHill x = Checks.hill("breath 3 2 2 1;passage 9 9 1;thing a 0 0 1 0;thing b 1 0 1 0 tied;");
        int[] far = {1, 2, 3, 3, 3, 2, 1, 1, 2, 3, 4, 4, 4, 3, 2, 2};
        for (int hour = 0; hour < far.length; hour++) {
            x.hours(1);
            row("behind hour " + hour, x, 0, 2, far[hour], 0, 0);
        }
        BreathingHill y = Checks.hill("breath 2 2 3 1;passage 9 9 1;thing a 1 0 1 0 tied;");
        y.hours(4);
        y.tie(0, 0);
        int[] other = {1, 2, 3, 3, 2, 1, 1, 1, 2, 3, 4, 4};
        for (int hour = 0; hour < other.length; hour++) {
            y.hours(1);
            row("from valley 1, behind hour " + (4 + hour), y, 0, 2, other[hour], 0, 1);
        }
    }

    /** "0 far: it comes out where it went in, as it was" */
    private static void promise16OutWhereItWentIn() {
        BreathingHill x = Checks.hill("breath 2 0 4 0;passage 9 9 5;thing a 0 0 1 6;");
        x.hours(3);
        row("1 far", x, 0, 2, 1, 0, 0, 6, 0, 1, 0);
        x.hours(1);
        row("0 far", x, 0, 0, 0, -1, -1, 6, 0, 1, 0);
        x.hours(1);
        row("carried in the next hour", x, 0, 0, 4, -1, -1, 6, 0, 1, 0);
        BreathingHill y = Checks.hill("breath 4 0 2 0;passage 9 9 5;thing a 1 0 1 6 tied;");
        y.hours(4);
        y.tie(0, 0);
        y.hours(3);
        row("1 far, from valley 1", y, 0, 2, 1, 0, 1, 6, 0, 1, 0);
        y.hours(1);
        row("0 far, in valley 1", y, 0, 1, 0, -1, -1, 6, 0, 1, 0);
    }

    /** "its COLOUR by ALTER more (from 0 again beyond 7)": to 6, to 7, to 8, to 14 */
    private static void promise16ColourFrom0Again() {
        for (int colour = 0; colour < 8; colour++) {
            for (int alter = 0; alter < 8; alter++) {
                BreathingHill x = Checks.hill("passage 2 9 " + alter + ";thing a 0 0 4 " + colour + ";");
                x.hours(2);
                int more = colour + alter;
                Checks.due("colour " + colour + ", alter " + alter, x.thing(0, 4), more > 7 ? more - 8 : more);
            }
        }
    }

    /** "(What comes out, goes in, is carried no more in this HOUR.)" */
    private static void promise16CarriedNoMore() {
        BreathingHill x = Checks.hill("breath 3 0 3 0;force 9;passage 2 9 0;thing a 0 0 1 0;");
        x.hours(1);
        row("goes in, 1 far alone", x, 0, 2, 1, 0, 0);
        x.hours(1);
        row("comes out beyond, at cell 0", x, 0, 1, 0, -1, -1);
        x.hours(1);
        row("carried then", x, 0, 1, 9, -1, -1);
    }

    /** "things, by numbers": each goes as if it were alone */
    private static void promise16ByNumbers() {
        BreathingHill x = Checks.hill("force 9;passage 3 9 1;" + eightThings(" 0 0 9 3;"));
        x.hours(3);
        for (int t = 0; t < 8; t++) {
            row("all of them", x, t, 1, 0, -1, -1, 4, 0, 9, 1);
        }
    }

    /** "Each mill in whose CELL the FORCE is 1 at least": FORCE 0, 1, 2 */
    private static void promise16MillsByForce() {
        BreathingHill x = Checks.hill("long 20 20;force 2;fade 5;mill a 0 4;mill b 0 5;mill c 0 9;mill d 0 10;");
        x.hours(1);
        int[] turned = {1, 1, 1, 0};
        for (int m = 0; m < 4; m++) {
            Checks.due("mill(" + m + ", 2)", x.mill(m, 2), turned[m]);
        }
    }

    /** "while AIR goes, has turned once more" */
    private static void promise16MillsWhileAirGoes() {
        BreathingHill x = Checks.hill("breath 1 1 2 1;held 1;mill a 0 0;mill b 1 0;");
        int[] turned = {1, 1, 2, 3, 3, 3, 3, 3, 3, 3, 4};
        for (int hour = 0; hour < turned.length; hour++) {
            x.hours(1);
            Checks.due("mill(0, 2) behind hour " + hour, x.mill(0, 2), turned[hour]);
            Checks.due("mill(1, 2) behind hour " + hour, x.mill(1, 2), turned[hour]);
        }
        Checks.passTo(x, 1000);
        int all = x.mill(0, 2);
        x.hours(5);
        Checks.due("no more when all are over", x.mill(0, 2), all);
    }
}
