/**
 * Promises 13 to 15, 17, 32, 38 and 39, sentence by sentence where a boundary is named: at it, one
 * below, one above; and that all stays where a call is refused.
 */
public final class EdgesOfActsTest {
    private static final String ALL_DAY = "long 20 20;breath 12 0 12 0;";

    public static void main(String[] args) throws IllegalAccessException {
        Checks.run(EdgesOfActsTest.class);
    }

    private static String eightThings(String end) {
        StringBuilder text = new StringBuilder();
        for (int t = 0; t < 8; t++) {
            text.append("thing ").append((char) ('a' + t)).append(end);
        }
        return text.toString();
    }

    // ---- promise 13 ----

    /** "NONE: no such ones" */
    private static void promise13NoSuchOnes() {
        int[][] none = {{4, 1}, {4, 0}, {8, 1}, {-1, 1}, {-1, 0}, {0, 2}, {0, -1}, {3, 2}, {4, 2}, {Integer.MIN_VALUE, 1},
            {Integer.MAX_VALUE, 0}, {0, Integer.MAX_VALUE}, {0, Integer.MIN_VALUE}};
        for (int[] pair : none) {
            Checks.dueRefused("tie(" + pair[0] + ", " + pair[1] + ")", x -> x.tie(pair[0], pair[1]), -1);
        }
        BreathingHill full = Checks.hill(eightThings(" 0 0 1 0;"));
        Checks.due("tie(7, 1), the eighth", full.tie(7, 1), 0);
        Checks.due("tie(8, 1)", full.tie(8, 1), -1);
        Checks.due("tie(0, 1), the first", full.tie(0, 1), 0);
        Checks.due("without things", new BreathingHill().tie(0, 1), -1);
    }

    /** "To TIE a thing: 1 it is lost; 2 it is inside; 3 it is tied" */
    private static void promise13WhyNotTied() {
        Checks.dueRefused("a lost one", x -> x.tie(2, 1), 1);
        Checks.dueRefused("one inside", x -> x.tie(1, 1), 2);
        Checks.dueRefused("a tied one", x -> x.tie(0, 1), 3);
        Checks.dueRefused("one told as tied", x -> x.tie(3, 1), 3);
    }

    /** "To LOOSE: 1 it is lost; 2 it is not tied" */
    private static void promise13WhyNotLoosed() {
        Checks.dueRefused("a lost one", x -> x.tie(2, 0), 1);
        Checks.dueRefused("one inside", x -> x.tie(1, 0), 2);
        Checks.dueRefused("one that is loose", () -> Checks.hill(Checks.LAND), x -> x.tie(0, 0), 2);
    }

    /** "0": what is done is done, and is one act */
    private static void promise13Done() {
        BreathingHill x = Checks.busy();
        Checks.due("loose", x.tie(0, 0), 0);
        Checks.due("it is", x.thing(0, 5), 0);
        Checks.due("loose once more", x.tie(0, 0), 2);
        Checks.due("tie", x.tie(0, 1), 0);
        Checks.due("it is", x.thing(0, 5), 1);
        Checks.due("its cell", x.thing(0, 1), 1);
        Checks.due("the hour", x.now(0), 1);
        Checks.due("two acts more", x.undo(), 3);
        Checks.due("undone", x.thing(0, 5), 0);
        BreathingHill y = at("thing a 0 9 9 0;", 1000);
        Checks.due("tie when all are over", y.tie(0, 1), 0);
        Checks.due("loose when all are over", y.tie(0, 0), 0);
    }

    // ---- promise 14 ----

    /** "NONE: no such ones": men */
    private static void promise14NoSuchMan() {
        int[] none = {2, 4, -1, Integer.MIN_VALUE, Integer.MAX_VALUE};
        for (int m : none) {
            Checks.dueRefused("walk(" + m + ", 1)", x -> x.walk(m, 1), -1);
        }
        Checks.due("walk(1, 3), the last man", Checks.busy().walk(1, 3), 0);
        Checks.due("without men", new BreathingHill().walk(0, 0), -1);
    }

    /** "NONE: no such ones": CELLS of his valley */
    private static void promise14NoSuchCell() {
        int[][] none = {{0, -1}, {0, 6}, {1, 5}, {1, -1}, {0, Integer.MIN_VALUE}, {0, Integer.MAX_VALUE}};
        for (int[] pair : none) {
            Checks.dueRefused("walk(" + pair[0] + ", " + pair[1] + ")", x -> x.walk(pair[0], pair[1]), -1);
        }
        Checks.due("walk(0, 5), the last cell of valley 0", Checks.busy().walk(0, 5), 0);
        BreathingHill x = Checks.busy();
        Checks.due("walk(1, 0)", x.walk(1, 0), 0);
        Checks.due("walk(1, 4), the last cell of valley 1", x.walk(1, 4), 0);
    }

    /** "1 he is there" */
    private static void promise14HeIsThere() {
        Checks.dueRefused("walk(0, 0)", x -> x.walk(0, 0), 1);
        Checks.dueRefused("walk(1, 4)", x -> x.walk(1, 4), 1);
        Checks.dueRefused("at hour 1000 too", EdgesOfActsTest::over, x -> x.walk(0, 3), 1);
        BreathingHill x = Checks.busy();
        Checks.due("beside it", x.walk(1, 3), 0);
        Checks.due("there then", x.walk(1, 3), 1);
    }

    private static BreathingHill over() {
        BreathingHill x = Checks.hill("breath 4 1 4 1;passage 9 9 1;thing a 0 0 1 0;thing b 0 5 9 0;mill m 0 0;man p 0 3;");
        Checks.passTo(x, 1000);
        return x;
    }

    /** "2 it would be above HOUR 1000": one HOUR less, just it, one more */
    private static void promise14NotAbove1000() {
        // FORCE 3 holds nobody back: in HOURS 996 to 999 the AIR goes out of valley 0
        String land = "long 20 20;breath 12 0 12 0;force 3;man p 0 0;man q 0 19;thing a 0 5 9 0;";
        int[][] cells = {{996, 6, 0, 999}, {996, 7, 0, 1000}, {996, 8, 0, 1000}, {996, 9, 2, 996}, {999, 1, 0, 1000},
            {999, 2, 0, 1000}, {999, 3, 2, 999}, {998, 4, 0, 1000}, {998, 5, 2, 998}, {1000, 1, 2, 1000}};
        for (int[] row : cells) {
            BreathingHill x = Checks.hill(land);
            Checks.passTo(x, row[0]);
            Checks.due("at " + row[0] + " walk(0, " + row[1] + ")", x.walk(0, row[1]), row[2]);
            Checks.due("the hour then", x.now(0), row[3]);
            Checks.due("his cell then", x.man(0, 1), row[2] == 0 ? row[1] : 0);
            Checks.due("his hours then", x.man(0, 2), row[3] - row[0]);
        }
        Checks.dueRefused("above 1000", () -> at(land, 996), x -> x.walk(0, 9), 2);
        Checks.dueRefused("above 1000, against the air", () -> at(land, 996), x -> x.walk(1, 14), 2);
        Checks.due("just 1000, against the air", at(land, 996).walk(1, 15), 0);
        Checks.dueRefused("at 1000", () -> at(land, 1000), x -> x.walk(0, 1), 2);
    }

    private static BreathingHill at(String land, int hour) {
        BreathingHill x = Checks.hill(land);
        Checks.passTo(x, hour);
        return x;
    }

    /** "1 cell in an HOUR" (still AIR) */
    private static void promise14OneCellInStillAir() {
        for (int cell = 0; cell < 20; cell++) {
            BreathingHill x = Checks.hill(ALL_DAY + "held 0;man p 0 9;");
            int away = Math.abs(cell - 9);
            Checks.due("walk(0, " + cell + ")", x.walk(0, cell), away == 0 ? 1 : 0);
            Checks.due("his hours", x.man(0, 2), away);
            Checks.due("the hour", x.now(0), away);
            Checks.due("his cell", x.man(0, 1), cell);
        }
    }

    /** "2 (1, if it is 1 away) where AIR goes his way" */
    private static void promise14TwoCellsWithTheAir() {
        for (int away = 1; away <= 9; away++) {
            BreathingHill x = Checks.hill(ALL_DAY + "man p 0 9;man q 1 9;");
            Checks.due("to the cleft by " + away, x.walk(0, 9 - away), 0);
            Checks.due("his hours", x.man(0, 2), (away + 1) / 2);
            Checks.due("his cell", x.man(0, 1), 9 - away);
            BreathingHill y = Checks.hill(ALL_DAY + "man p 0 9;man q 1 9;");
            Checks.due("from it by " + away, y.walk(1, 9 + away), 0);
            Checks.due("his hours", y.man(1, 2), (away + 1) / 2);
            Checks.due("his cell", y.man(1, 1), 9 + away);
        }
        BreathingHill weak = Checks.hill(ALL_DAY + "force 1;fade 1;man p 0 9;");
        Checks.due("where the FORCE is 0", weak.soonest(0, 5), 2);
    }

    /** "none where it goes against him with FORCE 4 at least (in his CELL)": 3, 4, 5 */
    private static void promise14NoneAgainstForce4() {
        for (int force = 1; force <= 9; force++) {
            BreathingHill x = Checks.hill(ALL_DAY + "force " + force + ";man p 0 0;man q 1 3;");
            Checks.due("force " + force, x.soonest(0, 1), force < 4 ? 1 : 13);
            Checks.due("force " + force, x.soonest(0, 2), force < 4 ? 2 : 13);
            Checks.due("force " + force + " in valley 1", x.soonest(1, 2), force < 4 ? 1 : 13);
        }
    }

    /** "(in his CELL)": it fades where he stands, not where he goes */
    private static void promise14ForceInHisCell() {
        String land = ALL_DAY + "force 4;fade 5;";
        Checks.due("from cell 4, force 4", Checks.hill(land + "man p 0 4;").soonest(0, 5), 13);
        Checks.due("from cell 5, force 3", Checks.hill(land + "man p 0 5;").soonest(0, 6), 1);
        Checks.due("valley 1, from cell 5 to 4", Checks.hill(land + "man p 1 5;").soonest(0, 4), 1);
        Checks.due("valley 1, from cell 5 to 3: held back in 4", Checks.hill(land + "man p 1 5;").soonest(0, 3), 13);
        Checks.due("valley 1, from cell 6 to 4", Checks.hill(land + "man p 1 6;").soonest(0, 4), 2);
    }

    /** "things, mills and all going on meanwhile" */
    private static void promise14AllGoesOnMeanwhile() {
        String land = "breath 3 1 3 1;passage 3 2 5;passage 2 9 1;thing a 0 0 4 0;thing b 1 9 1 0;mill m 0 0;man p 0 0;man q 1 2;";
        BreathingHill x = Checks.hill(land);
        BreathingHill y = Checks.hill(land);
        Checks.due("walk(0, 9)", x.walk(0, 9), 0);
        y.hours(x.now(0));
        for (int what = 0; what < 7; what++) {
            Checks.due("now(" + what + ")", x.now(what), y.now(what));
        }
        for (int what = 0; what < 8; what++) {
            Checks.due("thing(0, " + what + ")", x.thing(0, what), y.thing(0, what));
            Checks.due("thing(1, " + what + ")", x.thing(1, what), y.thing(1, what));
        }
        Checks.due("mill(0, 2)", x.mill(0, 2), y.mill(0, 2));
        Checks.due("man(0, 1)", x.man(0, 1), 9);
        Checks.due("man(0, 2)", x.man(0, 2), x.now(0));
        Checks.due("man(1, 1)", x.man(1, 1), 2);
        Checks.due("man(1, 2)", x.man(1, 2), 0);
        Checks.due("one act", x.undo(), 0);
        Checks.due("undone", x.now(0), 0);
    }

    // ---- promise 15 ----

    /** "To COUGH: 1 nothing is inside" */
    private static void promise15NothingInside() {
        Checks.dueRefused("cough()", () -> Checks.hill(Checks.LAND), x -> x.cough(), 1);
        Checks.dueRefused("cough() when it has coughed", () -> {
            BreathingHill x = Checks.busy();
            x.cough();
            return x;
        }, x -> x.cough(), 1);
        Checks.dueRefused("cough() of an empty land", BreathingHill::new, x -> x.cough(), 1);
    }

    /** "all that is inside comes out at CELL 0 of valley 0, as it is": one, and all eight, from both valleys */
    private static void promise15AllThatIsInside() {
        BreathingHill one = Checks.busy();
        Checks.due("cough()", one.cough(), 0);
        int[] want = {0, 0, -1, -1, 0, 0, 4, 0};
        for (int what = 0; what < want.length; what++) {
            Checks.due("thing(1, " + what + ")", one.thing(1, what), want[what]);
        }
        Checks.due("what was not inside", one.thing(0, 1), 1);
        Checks.due("lost ones", one.now(4), 4);
        Checks.due("the hour", one.now(0), 1);
        Checks.due("one act", one.undo(), 2);
        Checks.due("inside again", one.thing(1, 0), 2);

        BreathingHill all = Checks.hill("breath 3 0 3 0;passage 9 9 5;" + eightThings(" 0 0 4 7;"));
        all.hours(2);
        Checks.due("inside", all.now(3), 255);
        Checks.due("cough()", all.cough(), 0);
        Checks.due("none is inside", all.now(3), 0);
        Checks.due("in valley 0", all.now(5), 255);
        Checks.due("as it is", all.thing(7, 4), 7);
        Checks.due("not beyond", all.thing(7, 7), 0);

        BreathingHill other = Checks.hill("breath 2 0 3 0;passage 9 9 5;thing a 1 0 4 7 tied;thing b 0 0 4 1 tied;");
        other.hours(2);
        other.tie(0, 0);
        other.hours(2);
        Checks.due("from valley 1", other.thing(0, 3), 1);
        Checks.due("cough()", other.cough(), 0);
        int[] came = {0, 0, -1, -1, 7, 0, 4, 0};
        for (int what = 0; what < came.length; what++) {
            Checks.due("thing(0, " + what + ")", other.thing(0, what), came[what]);
        }
    }

    // ---- promise 17 ----

    /** "how many more can be (8 at most are kept)": 7, 8 and 9 acts */
    private static void promise17EightAreKept() {
        for (int acts = 1; acts <= 10; acts++) {
            BreathingHill x = Checks.hill("thing a 0 9 9 0;");
            for (int k = 0; k < acts; k++) {
                x.hours(1);
            }
            int kept = Math.min(8, acts);
            for (int k = kept - 1; k >= 0; k--) {
                Checks.due(acts + " acts: undo()", x.undo(), k);
                Checks.due("the hour", x.now(0), acts - kept + k);
            }
            Checks.due("no more", x.undo(), -1);
            Checks.due("the hour stays", x.now(0), acts - kept);
        }
    }

    /** What comes behind an undone act is kept in its stead. */
    private static void promise17ActsBehindUndone() {
        BreathingHill x = Checks.hill("thing a 0 9 9 0;");
        for (int k = 0; k < 9; k++) {
            x.hours(1);
        }
        Checks.due("undo()", x.undo(), 7);
        Checks.due("undo()", x.undo(), 6);
        x.hours(10);
        x.hours(10);
        x.hours(10);
        Checks.due("the hour", x.now(0), 37);
        int[] hours = {27, 17, 7, 6, 5, 4, 3, 2};
        for (int k = 0; k < 8; k++) {
            Checks.due("undo()", x.undo(), 7 - k);
            Checks.due("the hour", x.now(0), hours[k]);
        }
        Checks.due("no more", x.undo(), -1);
    }

    /** "NONE: none is" */
    private static void promise17None() {
        Checks.dueRefused("undo()", () -> Checks.hill(Checks.LAND), x -> x.undo(), -1);
        Checks.dueRefused("undo() of an empty land", BreathingHill::new, x -> x.undo(), -1);
        BreathingHill x = Checks.busy();
        Checks.due("undo()", x.undo(), 1);
        Checks.due("undo()", x.undo(), 0);
        Checks.due("undo()", x.undo(), -1);
        Checks.due("undo()", x.undo(), -1);
    }

    /** "The latest of tie(), walk(), cough() that was done, hours() above 0, drawn() above 0, a LOG that was lived" */
    private static void promise17WhatIsAnAct() {
        Checks.Call[] acts = {x -> x.tie(0, 0), x -> x.walk(0, 1), x -> x.cough(), x -> x.hours(1), x -> x.drawn(1, 1),
            x -> Checks.log(x, "hour 1;", 1), x -> Checks.log(x, "hour 1;otto ties;", 1)};
        for (int k = 0; k < acts.length; k++) {
            BreathingHill x = Checks.busy();
            BreathingHill twin = Checks.busy();
            acts[k].on(x);
            if (k >= 5) {
                twin.end(0);
                Checks.log(twin, k == 5 ? "hour 1;" : "hour 1;otto ties;", 0);
            }
            Checks.due("act " + k + ": undo()", x.undo(), 2);
            Checks.dueText("act " + k + " is undone", Checks.whole(x, true), Checks.whole(twin, true));
            Checks.due("those ahead of it", x.undo(), 1);
        }
    }

    /** Questions, judged LOGS, SENTENCES, images are no acts. */
    private static void promise17WhatIsNoAct() {
        Checks.Call[] others = {x -> x.prices(), x -> x.later(0, 400), x -> x.ties(1, 9), x -> x.odds(0, 3, 3), x -> x.best(0, 0, 1),
            x -> Checks.log(x, "hour 1;", 0), x -> Checks.sentence(x, "lost"), x -> x.image(1) ? 1 : 0, x -> x.soonest(0, 3),
            x -> x.reach(0, 60), x -> x.letter(0, 0, 1, 0), x -> x.meet(0, 1), x -> x.which(), x -> x.guard(0)};
        for (Checks.Call other : others) {
            BreathingHill x = Checks.busy();
            other.on(x);
            Checks.due("undo() behind a question", x.undo(), 1);
            Checks.due("the tie is undone", x.thing(0, 5), 0);
        }
    }

    /** At HOUR 1000: "hours() above 0, drawn() above 0" */
    private static void promise17NoneOf0Hours() {
        Checks.dueRefused("hours(60)", EdgesOfActsTest::over, x -> x.hours(60), 0);
        Checks.dueRefused("drawn(60, 1)", EdgesOfActsTest::over, x -> x.drawn(60, 1), 0);
        BreathingHill y = at("thing a 0 9 9 0;", 999);
        Checks.due("hours(60), one being left", y.hours(60), 1);
        Checks.due("undo()", y.undo(), 7);
        Checks.due("the hour", y.now(0), 999);
        Checks.due("drawn(60, 1), one being left", y.drawn(60, 1), 1);
        Checks.due("undo()", y.undo(), 7);
        Checks.due("the hour", y.now(0), 999);
    }

    /** A LOG at FAULT, and one that is WRONG at once */
    private static void promise17LogsLived() {
        BreathingHill x = Checks.busy();
        Checks.due("a log at fault", Checks.log(x, "hour 1;otto", 1), -2 - 11);
        Checks.due("is no act", x.undo(), 1);
        BreathingHill y = Checks.busy();
        Checks.due("a log wrong at once", Checks.log(y, "otto ties;", 1), 0);
        Checks.due("was lived", y.undo(), 2);
        Checks.due("all is so still", y.thing(0, 5), 1);
    }

    // ---- promise 32 ----

    /** "n (1 to 60) HOURS DRAWN .. NONE: not as told, no things" */
    private static void promise32From1To60() {
        int[] some = {1, 2, 59, 60};
        for (int n : some) {
            BreathingHill x = Checks.busy();
            Checks.due("drawn(" + n + ", 5)", x.drawn(n, 5), n);
            Checks.due("the hour", x.now(0), 1 + n);
            Checks.due("one act", x.undo(), 2);
        }
        int[] none = {0, -1, 61, 62, Integer.MIN_VALUE, Integer.MAX_VALUE};
        for (int n : none) {
            Checks.dueRefused("drawn(" + n + ", 5)", x -> x.drawn(n, 5), -1);
        }
    }

    /** "no things": none, one */
    private static void promise32NoThings() {
        Checks.dueRefused("drawn(1, 1)", () -> Checks.hill("mill m 0 0;man p 0 0;"), x -> x.drawn(1, 1), -1);
        Checks.dueRefused("drawn(1, 1) of an empty land", BreathingHill::new, x -> x.drawn(1, 1), -1);
        Checks.due("one thing", Checks.hill("thing a 0 0 9 0;").drawn(1, 1), 1);
    }

    /** "how many went by": HOURS left one fewer, as many, one more */
    private static void promise32TillHour1000() {
        int[] left = {9, 10, 11};
        for (int hours : left) {
            BreathingHill x = at("thing a 0 9 9 0;", 1000 - hours);
            Checks.due("drawn(10, 7), " + hours + " being left", x.drawn(10, 7), Math.min(10, hours));
            Checks.due("the hour", x.now(0), Math.min(1000, 1010 - hours));
        }
        Checks.dueRefused("all over", EdgesOfActsTest::over, x -> x.drawn(1, 1), 0);
    }

    /** "x becomes x * 1103515245 + 12345 (an int, wrapping), the draw is (x >>> 8) % n" */
    private static void promise32IntWrapping() {
        int[] seeds = {Integer.MIN_VALUE, Integer.MIN_VALUE + 1, -1, 0, 1, Integer.MAX_VALUE - 1, Integer.MAX_VALUE};
        for (int seed : seeds) {
            byHand("breath 3 0 3 0;passage 4 9 5;passage 2 3 1;" + eightThings(" 0 0 1 0;"), 8, seed);
            byHand("breath 3 0 3 0;passage 4 9 5;thing a 0 0 1 0;", 1, seed);
            byHand("breath 3 0 3 0;passage 4 9 5;thing a 0 0 1 0;thing b 1 4 9 0 tied;thing c 1 0 2 0;", 3, seed);
        }
    }

    /** The draws by sums that do not wrap, the acts by the calls of the face. */
    private static void byHand(String land, int things, int seed) {
        BreathingHill x = Checks.hill(land);
        BreathingHill y = Checks.hill(land);
        Checks.due("drawn(60, " + seed + ")", x.drawn(60, seed), 60);
        long drawn = seed;
        for (int hour = 0; hour < 60; hour++) {
            drawn = next(drawn);
            if (draw(drawn, 20) == 0) {
                drawn = next(drawn);
                int t = draw(drawn, things);
                if (y.tie(t, 0) != 0) {
                    y.tie(t, 1);
                }
            }
            drawn = next(drawn);
            if (draw(drawn, 30) == 0) {
                y.cough();
            }
            y.hours(1);
        }
        Checks.dueText("all is so by seed " + seed, Checks.whole(x, true), Checks.whole(y, true));
    }

    private static long next(long x) {
        return Math.floorMod(Math.floorMod(x, 4294967296L) * 1103515245L + 12345L, 4294967296L);
    }

    private static int draw(long x, int n) {
        return (int) (x / 256 % n);
    }

    // ---- promises 38 and 39 ----

    /** "place k (0, 1): true; false: no such one" */
    private static void promise38Places() {
        int[] none = {-1, 2, 3, Integer.MIN_VALUE, Integer.MAX_VALUE};
        for (int k : none) {
            Checks.dueRefused("image(" + k + ")", x -> x.image(k) ? 1 : 0, 0);
        }
        for (int k = 0; k < 2; k++) {
            BreathingHill x = Checks.busy();
            String so = Checks.whole(x, true);
            Checks.due("image(" + k + ")", x.image(k), true);
            Checks.dueText("it changes nothing", Checks.whole(x, true), so);
            Checks.due("what can be undone", x.undo(), 1);
            x.hours(60);
            Checks.due("restore(" + k + ")", x.restore(k), true);
            Checks.dueText("as kept", Checks.whole(x, true), so);
        }
    }

    /** The two places are two; the latest image of a place is kept. */
    private static void promise38TwoPlaces() {
        BreathingHill x = Checks.hill(Checks.LAND);
        x.image(0);
        x.hours(1);
        x.image(1);
        x.hours(1);
        x.restore(0);
        Checks.due("place 0", x.now(0), 0);
        x.restore(1);
        Checks.due("place 1", x.now(0), 1);
        x.hours(5);
        x.image(0);
        x.hours(1);
        x.restore(0);
        Checks.due("place 0 anew", x.now(0), 6);
        x.restore(1);
        Checks.due("place 1 still", x.now(0), 1);
        x.restore(0);
        Checks.due("as often as wanted", x.now(0), 6);
    }

    /** "false: no such one, or nothing is kept there" */
    private static void promise39NothingKept() {
        int[] none = {-1, 1, 2, 3, Integer.MIN_VALUE, Integer.MAX_VALUE};
        for (int k : none) {
            Checks.dueRefused("restore(" + k + ")", x -> x.restore(k) ? 1 : 0, 0);
        }
        Checks.due("restore(0), which is kept", Checks.busy().restore(0), true);
        Checks.dueRefused("restore(0) of a new one", BreathingHill::new, x -> x.restore(0) ? 1 : 0, 0);
    }

    /** "(the tape, and what other calls told last, stays; nothing can be undone)" */
    private static void promise39WhatStays() {
        BreathingHill x = Checks.busy();
        int[] logged = {x.logged(0), x.logged(1), x.logged(2), x.logged(3)};
        int price = x.price(0);
        Checks.put(x, "man a 0 0;");
        x.land();
        Checks.put(x, "passage 9 9 9;");
        x.land();
        Checks.put(x, "tied or lost");
        Checks.due("restore(0)", x.restore(0), true);
        Checks.due("the tape", x.count(7), 12);
        Checks.due("the fault", x.fault(), 2);
        Checks.due("the price", x.price(0), price);
        for (int what = 0; what < 4; what++) {
            Checks.due("logged(" + what + ")", x.logged(what), logged[what]);
        }
        Checks.due("things", x.count(3), 4);
        Checks.due("the sentence", x.said(-1), 3);
        Checks.due("nothing can be undone", x.undo(), -1);
        Checks.due("what the tape says", x.sentence(), 2);
        x.hours(1);
        Checks.due("acts from then on can", x.undo(), 0);
    }

    /** "nothing can be undone": however much could be ahead of it */
    private static void promise39NothingCanBeUndone() {
        BreathingHill x = Checks.busy();
        Checks.due("restore(0)", x.restore(0), true);
        Checks.due("undo()", x.undo(), -1);
        for (int k = 0; k < 9; k++) {
            x.hours(1);
        }
        x.restore(0);
        Checks.due("undo()", x.undo(), -1);
        Checks.due("the hour", x.now(0), 1);
    }

    /** A SENTENCE that was not there is not there again; one that was is. */
    private static void promise39Sentence() {
        BreathingHill x = Checks.hill(Checks.LAND);
        x.image(0);
        Checks.sentence(x, "number < 3");
        x.image(1);
        Checks.sentence(x, "number < 2");
        x.restore(1);
        Checks.due("the one of place 1", x.said(-1), 3);
        x.restore(0);
        Checks.due("none of place 0", x.said(-1), -1);
    }
}
