/**
 * Promises 18 to 31 and 33, sentence by sentence where a boundary is named: at it, one below, one
 * above; and that all stays where a call is refused.
 */
public final class EdgesOfAskingTest {
    private static final int LEAST = Integer.MIN_VALUE;
    private static final int MOST = Integer.MAX_VALUE;

    /**
     * In this LAND a thing of WEIGHT 1 in valley 0 is carried 2 CELLS to the cleft and 1 back in each
     * BREATH of 27 HOURS, so that it takes long.
     */
    private static final String SLOW = "long 20 20;breath 2 12 1 12;force 1;";

    /** In this one a BREATH has 26 HOURS. */
    private static final String SLOWER = "long 20 20;breath 2 12 1 11;force 1;";

    /** BREATH 0, of 48 HOURS, is still; in HOUR 48 the AIR goes into valley 0's cleft. */
    private static final String STILL = "long 20 20;breath 12 12 12 12;held 0;";

    public static void main(String[] args) throws IllegalAccessException {
        Checks.run(EdgesOfAskingTest.class);
    }

    private static BreathingHill at(String land, int hour) {
        BreathingHill x = Checks.hill(land);
        Checks.passTo(x, hour);
        return x;
    }

    // ---- promise 18 ----

    /** "NONE: .. no such ones (WEIGHT 1 to 9, HOUR 0 to 999)" */
    private static void promise18NoSuchOnes() {
        int[][] none = {{-1, 0, 4, 0}, {2, 0, 4, 0}, {0, -1, 4, 0}, {0, 6, 4, 0}, {1, 5, 1, 4}, {1, -1, 1, 4}, {0, 0, 0, 0},
            {0, 0, -1, 0}, {0, 0, 10, 0}, {0, 0, 4, -1}, {0, 0, 4, 1000}, {LEAST, 0, 4, 0}, {MOST, 0, 4, 0},
            {0, LEAST, 4, 0}, {0, MOST, 4, 0}, {0, 0, LEAST, 0}, {0, 0, MOST, 0}, {0, 0, 4, LEAST}, {0, 0, 4, MOST}};
        for (int[] row : none) {
            Checks.dueRefused("letter(" + row[0] + ", " + row[1] + ", " + row[2] + ", " + row[3] + ")",
                x -> x.letter(row[0], row[1], row[2], row[3]), -1);
        }
        BreathingHill y = Checks.hill("long 6 5;breath 4 0 4 0;force 9;passage 2 9 0;");
        Checks.due("the last cell of valley 0", y.letter(0, 5, 1, 0), 3);
        Checks.due("the last cell of valley 1", y.letter(1, 4, 1, 4), 3);
        Checks.due("weight 1", y.letter(0, 0, 1, 0), 2);
        Checks.due("weight 9", y.letter(0, 0, 9, 0), 2);
        Checks.due("hour 0", y.letter(0, 0, 4, 0), 2);
        Checks.due("hour 998", y.letter(1, 0, 4, 998), 2);
    }

    /** "400 at most": 399, 400, 401 */
    private static void promise18HoursAtMost400() {
        // a LETTER from CELL 8 at a BREATH's beginning is beyond in its BREATH 15, 392 HOURS later
        BreathingHill x = Checks.hill(SLOWER + "passage 9 1 0;");
        Checks.due("from a breath's beginning", x.letter(0, 8, 1, 26), 392);
        Checks.due("7 still hours ahead of it", x.letter(0, 8, 1, 26 - 7), 399);
        Checks.due("8", x.letter(0, 8, 1, 26 - 8), 400);
        Checks.due("9", x.letter(0, 8, 1, 26 - 9), -1);
        Checks.due("10", x.letter(0, 8, 1, 26 - 10), -1);
    }

    /** "none behind HOUR 999" */
    private static void promise18NoneBehind999() {
        // HOURS 996 to 999 go in in valley 1
        for (int length = 2; length <= 5; length++) {
            BreathingHill x = Checks.hill("breath 12 0 12 0;passage " + length + " 9 0;");
            for (int hour = 996; hour < 1000; hour++) {
                int want = hour + length <= 1000 ? length : -1;
                Checks.due("length " + length + " at " + hour, x.letter(1, 0, 4, hour), want);
            }
        }
    }

    /** "not beyond by then": lost, too heavy, no passage, coming back */
    private static void promise18NotBeyond() {
        Checks.due("lost", Checks.hill("long 9 9;passage 2 9 0;").letter(1, 8, 1, 0), -1);
        Checks.due("too heavy by 1", Checks.hill("force 4;passage 2 9 0;").letter(0, 0, 5, 0), -1);
        Checks.due("not too heavy", Checks.hill("force 4;passage 2 9 0;").letter(0, 0, 4, 0), 2);
        Checks.due("no passage", new BreathingHill().letter(0, 0, 1, 0), -1);
        Checks.due("too wide by 1", Checks.hill("passage 2 3 0;").letter(0, 0, 4, 0), -1);
        Checks.due("as wide", Checks.hill("passage 2 4 0;").letter(0, 0, 4, 0), 2);
        Checks.due("as long as the air goes in", Checks.hill("breath 5 0 5 0;passage 5 9 0;").letter(0, 0, 1, 0), 5);
        Checks.due("longer by 1: it comes back", Checks.hill("breath 5 0 5 0;passage 6 9 0;").letter(0, 0, 1, 0), -1);
    }

    // ---- promise 19 ----

    /** "in n (1 to 400) HOURS; NONE: none, no such ones" */
    private static void promise19NoSuchOnes() {
        int[][] none = {{0, 0, 0, 0}, {0, 0, 0, -1}, {0, 0, 0, 401}, {0, 0, -1, 9}, {0, 0, 1000, 9}, {-1, 0, 0, 9}, {2, 0, 0, 9},
            {0, -1, 0, 9}, {0, 6, 0, 9}, {1, 5, 4, 9}, {0, 0, 0, LEAST}, {0, 0, 0, MOST}, {0, 0, LEAST, 9}, {0, 0, MOST, 9},
            {LEAST, 0, 0, 9}, {MOST, 0, 0, 9}, {0, LEAST, 0, 9}, {0, MOST, 0, 9}};
        for (int[] row : none) {
            Checks.dueRefused("heaviest(" + row[0] + ", " + row[1] + ", " + row[2] + ", " + row[3] + ")",
                x -> x.heaviest(row[0], row[1], row[2], row[3]), -1);
        }
        BreathingHill x = Checks.hill(Checks.LAND);
        Checks.due("n 1", x.heaviest(0, 0, 0, 1), -1);
        Checks.due("n 2", x.heaviest(0, 0, 0, 2), 4);
        Checks.due("n 400", x.heaviest(0, 0, 0, 400), 4);
    }

    /** "beyond in n HOURS": one fewer than needed, as many, one more */
    private static void promise19HoursNeeded() {
        // WEIGHTS 6 to 9 need 2 HOURS, 3 to 5 need 3, 1 and 2 need 4
        BreathingHill x = Checks.hill("breath 5 0 5 0;force 9;passage 4 2 0;passage 3 5 0;passage 2 9 0;");
        Checks.due("1 hour", x.heaviest(0, 0, 0, 1), -1);
        Checks.due("2 hours", x.heaviest(0, 0, 0, 2), 9);
        // and here the lighter ones are quicker
        BreathingHill y = Checks.hill("breath 9 0 9 0;force 9;passage 2 2 0;passage 3 5 0;passage 4 9 0;");
        int[] heaviest = {-1, 2, 5, 9, 9};
        for (int n = 1; n <= 5; n++) {
            Checks.due("in " + n + " hours", y.heaviest(0, 0, 0, n), heaviest[n - 1]);
        }
        BreathingHill z = Checks.hill(SLOWER + "passage 9 1 0;");
        Checks.due("399 of 400", z.heaviest(0, 8, 18, 399), -1);
        Checks.due("400 of 400", z.heaviest(0, 8, 18, 400), 1);
        Checks.due("400 of 401", z.heaviest(0, 8, 17, 400), -1);
    }

    /** WEIGHTS 1 to 9: the lightest alone, the heaviest of all */
    private static void promise19LightestAndHeaviest() {
        for (int force = 1; force <= 9; force++) {
            Checks.due("force " + force, Checks.hill("force " + force + ";passage 2 9 0;").heaviest(0, 0, 0, 9), force);
            Checks.due("wide " + force, Checks.hill("force 9;passage 2 " + force + " 0;").heaviest(0, 0, 0, 9), force);
        }
    }

    // ---- promise 20 ----

    /** "NONE: no such ones" */
    private static void promise20NoSuchOnes() {
        int[][] none = {{-1, 0, 4}, {2, 0, 4}, {0, -1, 4}, {0, 6, 4}, {1, 5, 4}, {0, 0, 0}, {0, 0, 10}, {0, 0, -1}, {LEAST, 0, 4},
            {MOST, 0, 4}, {0, LEAST, 4}, {0, MOST, 4}, {0, 0, LEAST}, {0, 0, MOST}};
        for (int[] row : none) {
            Checks.dueRefused("best(" + row[0] + ", " + row[1] + ", " + row[2] + ")", x -> x.best(row[0], row[1], row[2]), -1);
        }
        BreathingHill x = Checks.hill("breath 12 0 1 0;force 9;passage 2 9 0;");
        Checks.due("weight 1", x.best(0, 0, 1), 1);
        Checks.due("weight 9", x.best(0, 0, 9), 1);
        Checks.due("the last cell", x.best(0, 9, 9), 1);
    }

    /** "the first 30 HOURS from now on (bit 0: this one)" */
    private static void promise20First30Hours() {
        // let go in the still HOURS 0 to 47, or in HOUR 48, it is beyond behind HOUR 49; in HOUR 49 one later
        String land = STILL + "passage 2 9 0;";
        int all = (1 << 30) - 1;
        Checks.due("hours 0 to 29", at(land, 0).best(0, 0, 4), all);
        Checks.due("hours 18 to 47", at(land, 18).best(0, 0, 4), all);
        Checks.due("hours 19 to 48", at(land, 19).best(0, 0, 4), all);
        Checks.due("hours 20 to 49", at(land, 20).best(0, 0, 4), all >> 1);
        Checks.due("hours 21 to 50", at(land, 21).best(0, 0, 4), all >> 2);
        Checks.due("hours 48 to 77", at(land, 48).best(0, 0, 4), 1);
        // what is let go in valley 1 of one CELL in HOUR 59 or sooner is lost in it
        String lost = "long 1 1;breath 12 12 12 12;held 0;passage 2 9 0;";
        Checks.due("hours 30 to 59", at(lost, 30).best(1, 0, 4), 0);
        Checks.due("hours 31 to 60: the thirtieth alone", at(lost, 31).best(1, 0, 4), 1 << 29);
        Checks.due("hours 32 to 61", at(lost, 32).best(1, 0, 4), 3 << 28);
    }

    /** "beyond at the soonest HOUR of all": what is let go later may be beyond sooner */
    private static void promise20SoonestHourOfAll() {
        // in valley 1 HOURS 0 to 2 carry it off, 3 to 5 leave it at the cleft, in HOUR 6 it goes in
        BreathingHill x = Checks.hill("breath 3 3 9 3;passage 2 9 0;");
        int[] hours = {11, 9, 7, 5, 4, 3, 2, 2};
        for (int hour = 0; hour < hours.length; hour++) {
            Checks.due("letter(1, 0, 4, " + hour + ")", x.letter(1, 0, 4, hour), hours[hour]);
        }
        Checks.due("best(1, 0, 4)", x.best(1, 0, 4), 15 << 3);
    }

    /** "0: by none" */
    private static void promise20ByNone() {
        Checks.due("no passage", new BreathingHill().best(0, 0, 1), 0);
        Checks.due("too heavy", Checks.hill("passage 2 9 0;").best(0, 0, 5), 0);
        Checks.due("not too heavy", Checks.hill("passage 2 9 0;").best(0, 0, 4), 1);
        String land = "breath 2 0 2 0;passage 2 9 0;";
        Checks.due("the last breath in", at(land, 996).best(0, 0, 4), 1);
        Checks.due("hour 997 is too late", at(land, 997).best(0, 0, 4), 0);
        Checks.due("hour 998 in valley 1", at(land, 998).best(1, 0, 4), 1);
        Checks.due("hour 999", at(land, 999).best(1, 0, 4), 0);
        Checks.due("hour 1000", at(land, 1000).best(1, 0, 4), 0);
    }

    // ---- promise 21 ----

    /** "NONE: .. no such ones" */
    private static void promise21NoSuchOnes() {
        int[][] none = {{-1, 0}, {2, 0}, {0, -1}, {0, 6}, {1, 5}, {LEAST, 0}, {MOST, 0}, {0, LEAST}, {0, MOST}};
        for (int[] row : none) {
            Checks.dueRefused("soonest(" + row[0] + ", " + row[1] + ")", x -> x.soonest(row[0], row[1]), -1);
        }
        Checks.due("the last cell of valley 0", Checks.hill(Checks.LAND).soonest(0, 5), 6);
        Checks.due("the last cell of valley 1", Checks.hill(Checks.LAND).soonest(1, 4), 0);
        Checks.due("without men", new BreathingHill().soonest(0, 0), -1);
    }

    /** "NONE: not in time (HOUR 1000)": one HOUR less, just it, one more */
    private static void promise21NotInTime() {
        String land = "long 20 20;breath 12 0 12 0;force 3;man p 0 0;";
        int[] hours = {0, 1, 1, 2, 2, 3, 3, 4, 4, -1, -1};
        BreathingHill x = at(land, 996);
        for (int cell = 0; cell < hours.length; cell++) {
            Checks.due("at 996: soonest(0, " + cell + ")", x.soonest(0, cell), hours[cell]);
        }
        BreathingHill y = at(land, 1000);
        Checks.due("he is there", y.soonest(0, 0), 0);
        Checks.due("all over", y.soonest(0, 1), -1);
    }

    /** "HOURS a MAN needs, WALKING from now on": as walk() takes them, from each CELL to each */
    private static void promise21AsHeWalks() {
        for (int from = 0; from < 10; from += 3) {
            for (int to = 0; to < 10; to++) {
                String land = "breath 3 1 3 1;fade 3;held 2;man p 0 " + from + ";man q 1 " + from + ";";
                for (int m = 0; m < 2; m++) {
                    BreathingHill x = at(land, 2);
                    int needed = x.soonest(m, to);
                    Checks.due("walk()", x.walk(m, to), from == to ? 1 : 0);
                    Checks.due("from " + from + " to " + to, needed, x.now(0) - 2);
                }
            }
        }
    }

    // ---- promise 22 ----

    /** "in n (0 to 60) HOURS .. NONE: no such ones" */
    private static void promise22NoSuchOnes() {
        int[][] none = {{-1, 5}, {2, 5}, {0, -1}, {0, 61}, {LEAST, 5}, {MOST, 5}, {0, LEAST}, {0, MOST}};
        for (int[] row : none) {
            Checks.dueRefused("reach(" + row[0] + ", " + row[1] + ")", x -> x.reach(row[0], row[1]), -1);
        }
        BreathingHill x = Checks.hill(Checks.LAND);
        Checks.due("n 0: where he is", x.reach(0, 0), 1);
        Checks.due("n 60: all", x.reach(0, 60), 63);
        Checks.due("n 60: all of valley 1", x.reach(1, 60), 31);
        Checks.due("without men", new BreathingHill().reach(0, 0), -1);
    }

    /** "in n HOURS": one fewer than needed, as many, one more, up to 60 */
    private static void promise22HoursNeeded() {
        // he is held back for 12 of 13 HOURS, then goes 2 cells
        String land = "long 20 20;breath 12 0 1 0;man p 0 0;";
        int to8 = (1 << 9) - 1;
        int to10 = (1 << 11) - 1;
        BreathingHill x = at(land, 5);
        Checks.due("59 hours", x.reach(0, 59), to8);
        Checks.due("60 hours", x.reach(0, 60), to10);
        Checks.due("60 of 61 hours", at(land, 4).reach(0, 60), to8);
        Checks.due("7 hours", x.reach(0, 7), 1);
        Checks.due("8 hours", x.reach(0, 8), 7);
        Checks.due("9 hours", x.reach(0, 9), 7);
    }

    /** CELLS 0 and 19 are bits 0 and 19 */
    private static void promise22CellsAsBits() {
        Checks.due("cell 19", Checks.hill("long 20 20;man p 0 19;").reach(0, 0), 1 << 19);
        Checks.due("cell 0", Checks.hill("long 20 20;man p 1 0;").reach(0, 0), 1);
        Checks.due("all twenty", Checks.hill("long 20 20;man p 1 0;").reach(0, 60), (1 << 20) - 1);
        Checks.due("one alone", Checks.hill("long 20 1;man p 1 0;").reach(0, 60), 1);
        Checks.due("HOUR 1000 is in time", at("long 20 20;force 3;man p 0 19;", 1000).reach(0, 60), 1 << 19);
        Checks.due("one hour left, with the air", at("breath 1 0 1 0;man p 0 5;", 999).reach(0, 60), 7 << 5);
    }

    // ---- promise 23 ----

    /** "n (1 to 99) in all; NONE: .. no such ones" */
    private static void promise23NoSuchOnes() {
        int[][] none = {{-1, 0, 5}, {2, 0, 5}, {0, -1, 5}, {0, 6, 5}, {1, 5, 5}, {0, 0, 0}, {0, 0, -1}, {0, 0, 100}, {LEAST, 0, 5},
            {MOST, 0, 5}, {0, LEAST, 5}, {0, MOST, 5}, {0, 0, LEAST}, {0, 0, MOST}};
        for (int[] row : none) {
            Checks.dueRefused("dry(" + row[0] + ", " + row[1] + ", " + row[2] + ")", x -> x.dry(row[0], row[1], row[2]), -1);
        }
        BreathingHill x = Checks.hill("breath 12 0 12 0;force 9;");
        Checks.due("n 1", x.dry(0, 0, 1), 1);
        Checks.due("n 99", x.dry(0, 0, 99), 11);
        Checks.due("the last cell", x.dry(1, 9, 99), 11);
    }

    /** "till the FORCE has come to so much in all": one below, at it, one above */
    private static void promise23SoMuchInAll() {
        BreathingHill x = Checks.hill("long 20 20;breath 2 1 2 1;force 3;fade 5;");
        int[] hours = {1, 1, 1, 2, 2, 2, 4, 4, 4, 5, 5, 5, 7};
        for (int n = 1; n <= hours.length; n++) {
            Checks.due("dry(0, 4, " + n + ")", x.dry(0, 4, n), hours[n - 1]);
            Checks.due("dry(1, 0, " + n + ")", x.dry(1, 0, n), hours[n - 1]);
        }
        Checks.due("force 1 in cell 14", x.dry(0, 14, 1), 1);
        Checks.due("force 0 in cell 15", x.dry(0, 15, 1), -1);
    }

    /** "400 at most": 399, 400, 401 */
    private static void promise23HoursAtMost400() {
        // 1 in all in 26 HOURS twice: the 31st comes in HOUR 390
        String land = "breath 1 12 1 12;force 1;";
        Checks.due("from hour 0", at(land, 0).dry(0, 0, 31), 391);
        Checks.due("from hour 5, the 31st being in hour 403", at(land, 5).dry(0, 0, 31), 399);
        Checks.due("from hour 4", at(land, 4).dry(0, 0, 31), 400);
        Checks.due("from hour 3", at(land, 3).dry(0, 0, 31), -1);
    }

    /** "none behind HOUR 999" */
    private static void promise23NoneBehind999() {
        String land = "breath 1 0 1 0;force 1;";
        Checks.due("2 of 3 hours left", at(land, 997).dry(0, 0, 2), 2);
        Checks.due("3 of 3 hours left", at(land, 997).dry(0, 0, 3), 3);
        Checks.due("4 of 3 hours left", at(land, 997).dry(0, 0, 4), -1);
        Checks.due("in hour 999", at(land, 999).dry(0, 0, 1), 1);
        Checks.due("at hour 1000", at(land, 1000).dry(0, 0, 1), -1);
    }

    // ---- promise 24 ----

    /** "by the tape (4 bytes": 3, 4, 5; "NONE: not as told" */
    private static void promise24FourBytes() {
        byte[][] tapes = {{}, {0}, {0, 0}, {0, 0, 2}, {0, 0, 2, 1, 0}, new byte[20], {2, 0, 2, 1}, {3, 0, 2, 1}, {-1, 0, 2, 1},
            {127, 0, 2, 1}, {-128, 0, 2, 1}};
        for (byte[] bytes : tapes) {
            BreathingHill x = Checks.busy();
            BreathingHill twin = Checks.busy();
            Checks.put(x, bytes);
            twin.end(0);
            Checks.due("which() of " + bytes.length + " bytes", x.which(), -1);
            Checks.dueText("all stays but for the tape, which is empty", Checks.whole(x, true), Checks.whole(twin, true));
        }
        BreathingHill y = Checks.busy();
        Checks.due("which() of 4 bytes", Checks.which(y, 0, 0, 2, 1), 2);
        Checks.due("the tape is empty", y.count(7), 0);
        Checks.due("what can be undone stays", y.undo(), 1);
    }

    /** "a valley": 0, 1, and no other */
    private static void promise24Valleys() {
        BreathingHill x = Checks.hill("breath 3 1 3 1;passage 3 2 5;passage 2 9 1;");
        Checks.due("valley 0", Checks.which(x, 0, 0, 2, 1), 2);
        Checks.due("valley 1, against the air", Checks.which(x, 1, 0, 2, 1), 0);
        Checks.due("valley 1", Checks.which(x, 1, 4, 2, 1), 2);
        Checks.due("valley 2", Checks.which(x, 2, 0, 2, 1), -1);
        Checks.due("valley 255", Checks.which(x, 255, 0, 2, 1), -1);
        Checks.due("no passages", Checks.which(new BreathingHill(), 0, 0, 2, 1), 0);
    }

    /** "an HOUR modulo 256 from HOUR 0" */
    private static void promise24HourFrom0To255() {
        BreathingHill x = Checks.hill("breath 12 12 12 12;passage 2 9 1;");
        // HOUR 240 is the first of BREATH 5: HOURS 240 to 251 go in, 252 to 255 stand still
        for (int hour = 236; hour < 256; hour++) {
            Checks.due("hour " + hour, Checks.which(x, 0, hour, 2, 1), hour >= 240 && hour <= 250 ? 1 : 0);
        }
        Checks.due("hour 251: inside for the still hours, then back", Checks.which(x, 0, 251, 2, 1), 0);
        BreathingHill y = Checks.hill("breath 5 0 5 0;passage 2 9 1;");
        Checks.due("hour 255 in valley 1", Checks.which(y, 1, 255, 2, 1), 1);
        Checks.due("hour 0 is no 256", Checks.which(y, 1, 0, 2, 1), 0);
        Checks.passTo(y, 600);
        Checks.due("from hour 0, whatever it is now", Checks.which(y, 0, 0, 2, 1), 1);
        Checks.passTo(y, 1000);
        Checks.due("when all are over, too", Checks.which(y, 0, 0, 2, 1), 1);
    }

    /** "was inside so many HOURS (that HOUR and that of coming out counted)": one fewer, as many, one more */
    private static void promise24HoursInside() {
        for (int length = 2; length <= 9; length++) {
            BreathingHill x = Checks.hill("breath 12 0 12 0;passage " + length + " 9 1;");
            Checks.due("one fewer than " + length, Checks.which(x, 0, 0, length - 1, 1), 0);
            Checks.due("as many", Checks.which(x, 0, 0, length, 1), 1);
            Checks.due("one more", Checks.which(x, 0, 0, length + 1, 1), 0);
            Checks.due("the last hour in which it may go in", Checks.which(x, 0, 12 - length, length, 1), 1);
            Checks.due("one later it comes back or is long inside", Checks.which(x, 0, 13 - length, length, 1), 0);
        }
        // still HOURS count: in in HOUR 1, out beyond in HOUR 4 of BREATH 1 as HOURS 2 to 3 stand still
        BreathingHill y = Checks.hill("breath 2 12 1 1;passage 2 9 1;passage 3 9 1;");
        Checks.due("in in hour 0, out in hour 1", Checks.which(y, 0, 0, 2, 1), 1);
        Checks.due("2 far, 1 far, 2 far, 3 far: 18 hours", Checks.which(y, 0, 0, 18, 1), 2);
        Checks.due("17 hours", Checks.which(y, 0, 0, 17, 1), 0);
        Checks.due("19 hours", Checks.which(y, 0, 0, 19, 1), 0);
        Checks.due("0 hours", Checks.which(y, 0, 0, 0, 1), 0);
        Checks.due("255 hours", Checks.which(y, 0, 0, 255, 1), 0);
    }

    /** "with so much COLOUR more (modulo 8)" */
    private static void promise24ColourModulo8() {
        BreathingHill x = Checks.hill("passage 2 9 0;passage 2 9 1;passage 2 9 6;passage 2 9 7;");
        int[] passages = {1, 2, 0, 0, 0, 0, 4, 8};
        for (int more = 0; more < 24; more++) {
            Checks.due("colour " + more + " more", Checks.which(x, 0, 0, 2, more), passages[more % 8]);
        }
        Checks.due("colour 255 more", Checks.which(x, 0, 0, 2, 255), 8);
        Checks.due("colour 248 more", Checks.which(x, 0, 0, 2, 248), 1);
        Checks.due("all four", Checks.which(Checks.hill("passage 2 9 3;".repeat(4)), 0, 0, 2, 3), 15);
    }

    // ---- promise 25 ----

    /** "of some things (bits)": those that there are, and no others; "NONE: no such ones" */
    private static void promise25NoSuchThings() {
        int[] none = {16, 17, 31, 32, 256, -1, LEAST, MOST};
        for (int set : none) {
            Checks.dueRefused("ties(" + set + ", 1)", x -> x.ties(set, 1), -1);
        }
        BreathingHill x = Checks.hill(Checks.LAND);
        Checks.due("none of them", x.ties(0, 200), 0);
        Checks.due("the first", x.ties(1, 200), 1);
        Checks.due("all of them", x.ties(15, 200), 7);
        Checks.due("without things", new BreathingHill().ties(0, 1), 0);
        Checks.due("without things", new BreathingHill().ties(1, 1), -1);
        BreathingHill full = Checks.hill("passage 2 9 0;thing a 0 0 1 0;thing b 0 0 1 0;thing c 0 0 1 0;thing d 0 0 1 0;"
            + "thing e 0 0 1 0;thing f 0 0 1 0;thing g 0 0 1 0;thing h 0 0 1 0;");
        Checks.due("all eight", full.ties(255, 1), 255);
        Checks.due("the eighth", full.ties(128, 1), 128);
        Checks.due("a ninth", full.ties(256, 1), -1);
    }

    /** "for n (1 to 200) HOURS" */
    private static void promise25From1To200() {
        int[] none = {0, -1, 201, LEAST, MOST};
        for (int n : none) {
            Checks.dueRefused("ties(1, " + n + ")", x -> x.ties(1, n), -1);
        }
        Checks.due("n 1", Checks.hill(Checks.LAND).ties(15, 1), 6);
        Checks.due("n 200", Checks.hill(Checks.LAND).ties(15, 200), 7);
    }

    /** "would be lost, or go in, in n HOURS": one fewer than needed, as many, one more, up to 200 */
    private static void promise25HoursNeeded() {
        // from CELL 8 it goes in in the second HOUR of the eighth BREATH, 191 HOURS from its beginning on
        String land = SLOW + "passage 9 1 0;thing a 0 8 1 0 tied;";
        int[][] want = {{27, 190, 0}, {27, 191, 1}, {27, 192, 1}, {18, 199, 0}, {18, 200, 1}, {17, 200, 0}};
        for (int[] row : want) {
            BreathingHill x = at(land, row[0]);
            x.tie(0, 0);
            Checks.due("at " + row[0] + " ties(1, " + row[1] + ")", x.ties(1, row[1]), row[2]);
        }
        BreathingHill y = Checks.hill("long 9 9;thing a 1 0 1 0;thing b 1 4 1 0;thing c 1 5 1 0;");
        Checks.due("lost in 1", y.ties(7, 1), 4);
        Checks.due("lost in 2", y.ties(7, 2), 6);
        Checks.due("lost in 3", y.ties(7, 3), 7);
    }

    /** "(of some that are in a valley, not tied)" */
    private static void promise25InAValleyNotTied() {
        BreathingHill x = Checks.busy();
        Checks.due("tied, inside, lost, tied", x.ties(15, 200), 0);
        x.tie(0, 0);
        Checks.due("the first is loose", x.ties(15, 200), 1);
        Checks.due("it is not asked for", x.ties(14, 200), 0);
        BreathingHill over = at(Checks.LAND, 1000);
        Checks.due("no hour is left", over.ties(15, 200), 0);
        BreathingHill y = Checks.hill("passage 9 9 0;thing a 0 0 1 0;thing b 1 9 1 0;");
        Checks.due("both of them", y.ties(3, 1), 3);
        y.hours(1);
        Checks.due("inside and lost", y.ties(3, 200), 0);
        BreathingHill z = Checks.hill("thing a 1 9 1 0;thing b 1 9 9 0;");
        z.hours(1);
        Checks.due("lost", z.ties(3, 200), 0);
    }

    // ---- promise 26 ----

    /** "the n-th (1 to 9) TURN .. NONE: .. no such one" */
    private static void promise26From1To9() {
        int[] none = {0, -1, 10, 11, LEAST, MOST};
        for (int n : none) {
            Checks.dueRefused("turn(" + n + ")", x -> x.turn(n), -1);
        }
        BreathingHill x = Checks.hill("breath 2 1 3 1;");
        int[] turns = {2, 3, 6, 7, 9, 10, 13, 14, 16};
        for (int n = 1; n <= 9; n++) {
            Checks.due("turn(" + n + ")", x.turn(n), turns[n - 1]);
        }
    }

    /** "from now on (later than this one)" */
    private static void promise26LaterThanThisOne() {
        String land = "breath 2 1 3 1;";
        int[] first = {2, 2, 3, 6, 6, 6, 7, 9, 9, 10};
        for (int hour = 0; hour < first.length; hour++) {
            Checks.due("turn(1) at " + hour, at(land, hour).turn(1), first[hour]);
        }
    }

    /** "A TURN is an HOUR whose AIR (in valley 0) is another than that ahead of it": held BREATHS, no still HOURS */
    private static void promise26AnotherAir() {
        BreathingHill x = Checks.hill("breath 2 0 2 0;held 1;");
        int[] turns = {2, 4, 8, 10, 12};
        for (int n = 1; n <= turns.length; n++) {
            Checks.due("turn(" + n + ")", x.turn(n), turns[n - 1]);
        }
        Checks.due("still into a still breath", Checks.hill("breath 2 1 2 1;held 1;").turn(4), 12);
        Checks.due("held from the first", Checks.hill("breath 2 1 2 1;held 0;").turn(1), 6);
    }

    /** "NONE: none till HOUR 999" */
    private static void promise26NoneTill999() {
        String land = "breath 1 1 1 1;";
        Checks.due("hour 999", at(land, 998).turn(1), 999);
        Checks.due("none behind it", at(land, 998).turn(2), -1);
        Checks.due("at 999", at(land, 999).turn(1), -1);
        Checks.due("at 1000", at(land, 1000).turn(1), -1);
        Checks.due("two of them", at(land, 997).turn(2), 999);
        Checks.due("three of them", at(land, 997).turn(3), -1);
    }

    // ---- promise 27 ----

    /** "NONE: nothing is there that is not tied, no such one" */
    private static void promise27NoSuchOne() {
        int[] none = {-1, 1, 2, LEAST, MOST};
        for (int valley : none) {
            Checks.dueRefused("guard(" + valley + ")", x -> x.guard(valley), -1);
        }
        Checks.dueRefused("tied ones alone", x -> x.guard(0), -1);
        BreathingHill x = Checks.busy();
        x.tie(0, 0);
        Checks.due("one that is not tied", x.guard(0), 0);
        Checks.due("of an empty land", new BreathingHill().guard(0), -1);
    }

    /** "no more than 2 cells from it now (of like ones the least)": things in CELLS beside one another */
    private static void promise27TwoCells() {
        for (int cell = 0; cell < 20; cell++) {
            BreathingHill x = Checks.hill("long 20 20;thing a 0 " + cell + " 1 0;thing b 1 " + cell + " 1 0;");
            Checks.due("one in cell " + cell, x.guard(0), Math.max(0, cell - 2));
            Checks.due("one in cell " + cell + " of valley 1", x.guard(1), Math.max(0, cell - 2));
        }
        // up to 4 cells apart both can be guarded, from 2 below the farther one on; 5 apart one alone
        int[] guards = {2, 3, 4, 5, 1, 1};
        for (int apart = 1; apart <= 6; apart++) {
            BreathingHill x = Checks.hill("long 20 20;thing a 0 3 1 0;thing b 0 " + (3 + apart) + " 1 0;");
            Checks.due(apart + " apart", x.guard(0), guards[apart - 1]);
        }
    }

    /** "most things there": more win over fewer, whatever their CELLS */
    private static void promise27MostThings() {
        String two = "long 20 20;thing a 0 2 1 0;thing b 0 12 1 0;thing c 0 13 1 0;";
        Checks.due("two of three", Checks.hill(two).guard(0), 11);
        Checks.due("two and two", Checks.hill(two + "thing d 0 2 1 0;").guard(0), 0);
        Checks.due("three and two", Checks.hill(two + "thing d 0 2 1 0;thing e 0 14 1 0;").guard(0), 12);
        Checks.due("in the last cell", Checks.hill("long 3 3;thing a 0 2 1 0;").guard(0), 0);
        Checks.due("one cell", Checks.hill("long 1 1;thing a 0 0 1 0;").guard(0), 0);
    }

    // ---- promises 28 and 29 ----

    /** "ROUNDS till REST (that by which it is seen counted)": at once */
    private static void promise28RestAtOnce() {
        BreathingHill none = new BreathingHill();
        Checks.due("none in both", none.prices(), 1);
        Checks.due("price(0)", none.price(0), 10);
        Checks.due("price(1)", none.price(1), 10);
        BreathingHill one = Checks.hill("thing a 0 5 9 0;thing b 1 5 9 0;");
        Checks.due("one in both", one.prices(), 1);
        Checks.due("price(0)", one.price(0), 10);
    }

    /** "40 ROUNDS at most": REST by ROUND 39, 40, 41 */
    private static void promise28RoundsAtMost40() {
        // in HOUR 48 the one thing goes in, and there are none in both valleys
        String land = STILL + "passage 9 9 0;thing a 0 0 4 0;";
        int[][] want = {{47, 3, 8, 12}, {48, 2, 9, 11}, {12, 38, -27, 47}, {11, 39, -28, 48}, {10, 40, -29, 49}, {9, 40, -30, 50},
            {8, 40, -30, 50}};
        for (int[] row : want) {
            BreathingHill x = at(land, row[0]);
            Checks.due("at " + row[0] + " prices()", x.prices(), row[1]);
            Checks.due("price(0)", x.price(0), row[2]);
            Checks.due("price(1)", x.price(1), row[3]);
        }
    }

    /** "more things are in valley 0 than in 1: PRICE 0 1 less, 1 1 more; fewer: the other way" */
    private static void promise28MoreOrFewer() {
        BreathingHill more = Checks.hill("long 9 9;thing a 0 5 9 0;thing b 0 5 9 0;thing c 1 8 9 0;");
        Checks.due("one more", more.prices(), 40);
        Checks.due("price(0)", more.price(0), -30);
        Checks.due("price(1)", more.price(1), 50);
        BreathingHill fewer = Checks.hill("long 9 9;thing a 0 5 9 0;thing b 1 5 9 0;thing c 1 8 9 0;");
        Checks.due("one fewer", fewer.prices(), 40);
        Checks.due("price(0)", fewer.price(0), 50);
        Checks.due("price(1)", fewer.price(1), -30);
        // lost in HOUR 0, then as many in both
        BreathingHill lost = Checks.hill("long 9 9;thing a 0 5 9 0;thing b 1 5 9 0;thing c 1 8 4 0;");
        Checks.due("one fewer, till it is lost", lost.prices(), 2);
        Checks.due("price(0)", lost.price(0), 11);
        Checks.due("price(1)", lost.price(1), 9);
    }

    /** "then one HOUR goes by, as if nothing else were done": and none when all are over; "(All stays as it is.)" */
    private static void promise28AllStays() {
        Checks.dueRefused("prices() once more", x -> x.prices(), Checks.busy().prices());
        BreathingHill x = at("thing a 0 5 9 0;", 1000);
        Checks.due("all over", x.prices(), 40);
        Checks.due("price(0)", x.price(0), -30);
        Checks.due("the hour", x.now(0), 1000);
    }

    /** "NONE: no such one, or ahead of any" */
    private static void promise29NoSuchOne() {
        int[] none = {-1, 2, 3, LEAST, MOST};
        for (int valley : none) {
            Checks.dueRefused("price(" + valley + ")", x -> x.price(valley), -1);
        }
        BreathingHill x = Checks.hill("thing a 0 5 9 0;");
        Checks.due("ahead of any", x.price(0), -1);
        Checks.due("ahead of any", x.price(1), -1);
        x.prices();
        Checks.due("price(0)", x.price(0), -30);
        Checks.due("price(1)", x.price(1), 50);
        x.hours(60);
        x.undo();
        Checks.due("by the latest prices()", x.price(1), 50);
    }

    // ---- promise 30 ----

    /** "in n (0 to 400) HOURS .. NONE: no such ones" */
    private static void promise30NoSuchOnes() {
        int[][] none = {{-1, 0}, {4, 0}, {8, 0}, {0, -1}, {0, 401}, {LEAST, 0}, {MOST, 0}, {0, LEAST}, {0, MOST}};
        for (int[] row : none) {
            Checks.dueRefused("later(" + row[0] + ", " + row[1] + ")", x -> x.later(row[0], row[1]), -1);
        }
        BreathingHill x = Checks.hill(Checks.LAND);
        Checks.due("n 0: where it is", x.later(0, 0), 3);
        Checks.due("n 0 in valley 1", x.later(2, 0), 104);
        Checks.due("n 400", x.later(3, 400), 5);
        Checks.due("without things", new BreathingHill().later(0, 0), -1);
    }

    /** "Where a thing would be": HOUR by HOUR, at 399 and 400 too */
    private static void promise30HourByHour() {
        String land = SLOW + "passage 9 1 0;thing a 0 9 1 0;";
        BreathingHill x = Checks.hill(land);
        int[] hours = {0, 1, 2, 14, 15, 27, 28, 29, 398, 399, 400};
        for (int n : hours) {
            BreathingHill y = at(land, n);
            Checks.due("later(0, " + n + ")", x.later(0, n), 100 * y.thing(0, 0) + y.thing(0, 1));
        }
        BreathingHill w = Checks.hill(STILL + "passage 2 9 0;thing a 0 0 4 0;");
        Checks.due("48 hours", w.later(0, 48), 0);
        Checks.due("49 hours: 1 far in", w.later(0, 49), 201);
        Checks.due("50 hours: beyond", w.later(0, 50), 100);
    }

    /** "(lost: 300)" */
    private static void promise30Lost() {
        BreathingHill x = Checks.hill("long 9 9;thing a 1 4 4 0;thing b 1 8 4 0;");
        Checks.due("in the last cell", x.later(0, 4), 108);
        Checks.due("beyond it", x.later(0, 5), 300);
        Checks.due("beyond it", x.later(1, 1), 300);
        Checks.due("for good", x.later(1, 400), 300);
        Checks.due("lost now", Checks.busy().later(2, 0), 300);
    }

    /** "if nothing is done", till HOUR 999 */
    private static void promise30Till999() {
        String land = "breath 1 0 1 0;force 1;thing a 0 9 1 0;";
        Checks.due("at 998", at(land, 998).later(0, 0), 9);
        Checks.due("at 998", at(land, 998).later(0, 1), 8);
        Checks.due("at 998", at(land, 998).later(0, 2), 9);
        Checks.due("at 998", at(land, 998).later(0, 3), 9);
        Checks.due("at 999", at(land, 999).later(0, 400), 9);
        Checks.due("at 1000", at(land, 1000).later(0, 400), 9);
    }

    // ---- promise 31 ----

    /** "-2: never, no such ones, alike" */
    private static void promise31NoSuchOnes() {
        int[][] none = {{-1, 0}, {0, -1}, {4, 0}, {0, 4}, {8, 8}, {-1, -1}, {0, 0}, {3, 3}, {LEAST, 0}, {0, LEAST}, {MOST, 0}, {0, MOST}};
        for (int[] row : none) {
            Checks.dueRefused("meet(" + row[0] + ", " + row[1] + ")", x -> x.meet(row[0], row[1]), -2);
        }
        BreathingHill x = Checks.hill("thing a 0 3 9 0;thing b 0 3 9 0;thing c 0 4 9 0;");
        Checks.due("the first two", x.meet(0, 1), -1);
        Checks.due("the last two", x.meet(1, 2), -2);
    }

    /** "(they are: this one less 1)" */
    private static void promise31TheyAre() {
        String land = "thing a 0 3 9 0;thing b 0 3 9 0;thing c 1 3 9 0;thing d 0 2 9 0;";
        int[] hours = {0, 1, 2, 999, 1000};
        for (int hour : hours) {
            Checks.due("at " + hour, at(land, hour).meet(0, 1), hour - 1);
            Checks.due("another valley, at " + hour, at(land, hour).meet(0, 2), -2);
            Checks.due("a cell beside, at " + hour, at(land, hour).meet(0, 3), -2);
        }
    }

    /** "in one CELL of a valley": inside and lost ones are in none */
    private static void promise31OfAValley() {
        BreathingHill x = Checks.hill("long 9 9;breath 5 0 5 0;passage 9 9 0;thing a 0 0 1 0;thing b 0 0 1 0;thing c 1 8 1 0;thing d 1 8 1 0;");
        x.hours(1);
        Checks.due("inside together", x.meet(0, 1), 9);
        Checks.due("lost together", x.meet(2, 3), -2);
        Checks.due("inside and 1 far", x.thing(0, 1), 1);
    }

    /** "from now on, in 200 HOURS": 199, 200, 201 */
    private static void promise31In200Hours() {
        // from CELL 9 it first comes to the cleft in the second HOUR of the eighth BREATH, 191 HOURS from its beginning on
        String land = SLOW + "thing a 0 9 1 0 tied;thing b 0 0 9 0;";
        int[][] want = {{27, 27 + 190}, {19, 19 + 198}, {18, 18 + 199}, {17, -2}, {16, -2}};
        for (int[] row : want) {
            BreathingHill x = at(land, row[0]);
            x.tie(0, 0);
            Checks.due("at " + row[0], x.meet(0, 1), row[1]);
            Checks.due("the other way round", x.meet(1, 0), row[1]);
        }
    }

    /** The HOUR at whose end they meet, up to HOUR 999 */
    private static void promise31Till999() {
        // HOUR 998 carries it to the cleft, HOUR 999 from it
        String land = "breath 1 0 1 0;force 9;thing a 0 9 1 0;thing b 0 0 9 0 tied;thing c 0 9 9 0 tied;";
        Checks.due("at 998", at(land, 998).meet(0, 1), 998);
        Checks.due("at 999: they are", at(land, 999).meet(0, 1), 998);
        Checks.due("at 999: in HOUR 999", at(land, 999).meet(0, 2), 999);
        Checks.due("at 1000: no more", at(land, 1000).meet(0, 1), -2);
    }

    // ---- promise 33 ----

    /** "Of n (1 to 30) seeds .. NONE: no such ones" */
    private static void promise33NoSuchOnes() {
        int[][] none = {{-1, 1}, {4, 1}, {8, 1}, {0, 0}, {0, -1}, {0, 31}, {LEAST, 1}, {MOST, 1}, {0, LEAST}, {0, MOST}};
        for (int[] row : none) {
            Checks.dueRefused("odds(" + row[0] + ", " + row[1] + ", 1)", x -> x.odds(row[0], row[1], 1), -1);
        }
        Checks.due("n 1", Checks.busy().odds(2, 1, 1), 0);
        Checks.due("n 30", Checks.busy().odds(2, 30, 1), 0);
        Checks.due("without things", new BreathingHill().odds(0, 1, 1), -1);
    }

    /** "x, x and 1, .. by how many": one seed more each time, wrapping */
    private static void promise33SeedBySeed() {
        int[] seeds = {0, MOST - 15, LEAST, -15};
        for (int seed : seeds) {
            BreathingHill x = Checks.hill("breath 3 0 3 0;passage 3 9 0;thing a 0 0 1 0;thing b 0 0 2 0;");
            x.image(0);
            int beyond = 0;
            for (int n = 1; n <= 30; n++) {
                x.drawn(50, seed + n - 1);
                beyond += x.thing(0, 0) == 1 ? 1 : 0;
                x.restore(0);
                Checks.due("odds(0, " + n + ", " + seed + ")", x.odds(0, n, seed), beyond);
            }
            Checks.due("not all alike", beyond > 0 && beyond < 30, true);
        }
    }

    /** "behind 50 HOURS DRAWN from now on": beyond behind 49, 50, 51 */
    private static void promise33Behind50Hours() {
        // in in HOUR 48: by a passage of LENGTH 2 it is beyond behind HOUR 49
        String two = STILL + "passage 2 9 0;thing a 0 0 4 0;";
        String three = STILL + "passage 3 9 0;thing a 0 0 4 0;";
        Checks.due("behind hour 49", at(two, 0).odds(0, 30, 77) > 0, true);
        Checks.due("behind hour 50, from hour 0 on", at(three, 0).odds(0, 30, 77), 0);
        Checks.due("behind hour 50, from hour 1 on", at(three, 1).odds(0, 30, 77) > 0, true);
    }

    /** "a thing is beyond": in the valley in which it was not told, and nowhere else; till HOUR 999 */
    private static void promise33Beyond() {
        Checks.due("lost", Checks.busy().odds(2, 30, 1), 0);
        Checks.due("where it was told", at("thing a 1 5 9 0;", 1000).odds(0, 30, 1), 0);
        BreathingHill y = Checks.hill("breath 9 0 1 0;passage 2 9 0;thing a 0 0 4 0;");
        y.hours(2);
        y.tie(0, 1);
        Checks.passTo(y, 1000);
        Checks.due("all over: beyond", y.odds(0, 30, 1), 30);
        Checks.due("all over: of one seed", y.odds(0, 1, 1), 1);
    }
}
