/** Promises 18 to 31 and 33: letters, errands, drying, passages, ties, turns, guards, prices, things to come. */
public final class AskingTest {
    private static final String LAND = "long 6 5;breath 3 1 3 1;force 4;fade 5;passage 3 2 5;passage 2 9 1;"
        + "thing otto 0 3 2 1;thing kiki 0 0 4 0;thing lo 1 4 2 2;thing pila 0 5 9 7 tied;man po 0 0;man bo 1 4;";

    public static void main(String[] args) throws IllegalAccessException {
        Checks.run(AskingTest.class);
    }

    private static void promise18Letter() {
        BreathingHill x = Checks.hill(LAND);
        Checks.due("18: in and out", x.letter(0, 0, 4, 0), 2);
        Checks.due("18: the longer passage", x.letter(0, 0, 2, 0), 3);
        Checks.due("18: by the cleft first", x.letter(0, 1, 4, 0), 3);
        Checks.due("18: let go later", x.letter(0, 0, 4, 1), 2);
        Checks.due("18: it waits for the breath", x.letter(0, 0, 4, 7), 3);
        Checks.due("18: lost", x.letter(1, 4, 1, 0), -1);
        Checks.due("18: from valley 1", x.letter(1, 0, 1, 4), 3);
        Checks.due("18: too heavy", x.letter(0, 0, 5, 0), -1);
        int[][] none = {{2, 0, 1, 0}, {-1, 0, 1, 0}, {0, 6, 1, 0}, {1, 5, 1, 0}, {0, -1, 1, 0}, {0, 0, 0, 0},
            {0, 0, 10, 0}, {0, 0, 4, -1}, {0, 0, 4, 1000}};
        for (int[] row : none) {
            Checks.due("18: no such ones", x.letter(row[0], row[1], row[2], row[3]), -1);
        }
        Checks.due("18: hour 992 is a breath's first", x.letter(0, 0, 4, 992), 2);
        BreathingHill y = Checks.hill("breath 2 0 2 0;passage 2 9 0;");
        Checks.due("18: the last hour but one", y.letter(1, 0, 4, 998), 2);
        Checks.due("18: none behind hour 999", y.letter(1, 0, 4, 999), -1);
    }

    private static void promise18LetterIsAThing() {
        String setting = "long 6 9;breath 4 2 3 1;force 5;fade 3;held 3;passage 4 2 5;passage 2 9 1;passage 9 9 1;";
        int beyond = 0;
        for (int valley = 0; valley < 2; valley++) {
            for (int cell = 0; cell < (valley == 0 ? 6 : 9); cell++) {
                for (int weight = 1; weight <= 6; weight++) {
                    BreathingHill x = Checks.hill(setting + "thing a " + valley + " " + cell + " " + weight + " 0;");
                    int answer = x.letter(valley, cell, weight, 0);
                    int hours = hoursTillBeyond(x);
                    Checks.due("18: as a thing", answer, hours > 400 ? -1 : hours);
                    beyond += hours > 400 ? 0 : 1;
                }
            }
        }
        Checks.due("18: some came out beyond", beyond > 10, true);
        BreathingHill y = Checks.hill("long 20 20;breath 1 12 1 12;force 9;passage 2 9 0;");
        Checks.due("18: two breaths are not enough", y.letter(0, 19, 1, 0), -1);
        // a valley in which it goes in 12 and out 1: from cell 19 by 1 cell each HOUR but for one
        BreathingHill z = Checks.hill("long 20 20;breath 12 12 1 12;force 1;passage 9 9 0;");
        Checks.due("18: a whole breath later is the same", z.letter(0, 19, 1, 0), z.letter(0, 19, 1, 37));
        // at the cleft behind 10 HOURS, 2 far behind 12, 1 far behind HOUR 24, 9 far behind HOUR 44
        Checks.due("18: by hand", z.letter(0, 10, 1, 0), 45);
    }

    /** BREATH by BREATH first, then HOUR by HOUR, as an object is used for 512 calls; 1000: never. */
    private static int hoursTillBeyond(BreathingHill x) {
        int begin = x.now(0);
        int breath = x.count(6);
        while (x.thing(0, 7) == 0 && x.hours(breath) > 0) {
            Checks.due("18: it goes on", x.now(0) <= 1000, true);
        }
        if (x.thing(0, 7) == 0) {
            return 1000;
        }
        x.undo();
        while (x.thing(0, 7) == 0) {
            x.hours(1);
        }
        return x.now(0) - begin;
    }

    /** A thing that is loosed at an HOUR is a letter let go then; some need just 400 HOURS, or 401. */
    private static void promise18LetterIn400() {
        boolean[] came = new boolean[1001];
        for (int cell = 4; cell < 10; cell++) {
            String land = "long 20 20;breath 2 12 1 12;force 1;passage 9 1 0;thing a 0 " + cell + " 1 0 tied;";
            for (int hour = 0; hour < 54; hour++) {
                BreathingHill x = Checks.hill(land);
                Checks.passTo(x, hour);
                x.tie(0, 0);
                int hours = hoursTillBeyond(x);
                Checks.due("18: letter(0, " + cell + ", 1, " + hour + ")", x.letter(0, cell, 1, hour), hours > 400 ? -1 : hours);
                came[hours] = true;
            }
        }
        Checks.due("18: 400 came", came[400], true);
        Checks.due("18: 401 came", came[401], true);
        BreathingHill y = Checks.hill("force 9;passage 2 9 0;");
        Checks.due("18: weight 9", y.letter(0, 0, 9, 0), 2);
    }

    private static void promise19Heaviest() {
        BreathingHill x = Checks.hill("breath 5 0 5 0;force 9;passage 4 2 0;passage 3 5 0;passage 2 8 0;");
        Checks.due("19: any hours", x.heaviest(0, 0, 0, 400), 8);
        Checks.due("19: two hours", x.heaviest(0, 0, 0, 2), 8);
        Checks.due("19: one hour", x.heaviest(0, 0, 0, 1), -1);
        // weight 8 goes 1 cell an HOUR, then the shortest passage; lighter ones are no sooner beyond
        Checks.due("19: from cell 2", x.heaviest(0, 2, 0, 4), 8);
        Checks.due("19: from cell 2 in 3 hours", x.heaviest(0, 2, 0, 3), -1);
        BreathingHill y = Checks.hill("breath 3 0 3 0;force 9;passage 2 2 0;passage 4 9 0;");
        Checks.due("19: the heavier ones come back", y.heaviest(0, 0, 0, 400), 2);
        int[][] none = {{2, 0, 0, 1}, {0, 10, 0, 1}, {0, -1, 0, 1}, {0, 0, -1, 9}, {0, 0, 1000, 9}, {0, 0, 0, 0}, {0, 0, 0, 401}};
        for (int[] row : none) {
            Checks.due("19: no such ones", y.heaviest(row[0], row[1], row[2], row[3]), -1);
        }
        Checks.due("19: near the end", y.heaviest(0, 0, 999, 400), -1);
        BreathingHill z = Checks.hill("force 1;passage 2 9 0;");
        Checks.due("19: only the lightest", z.heaviest(0, 0, 0, 400), 1);
        BreathingHill w = Checks.hill("force 9;passage 2 9 0;");
        Checks.due("19: the heaviest of all", w.heaviest(0, 0, 0, 400), 9);
    }

    private static void promise20Best() {
        BreathingHill x = Checks.hill("breath 3 3 3 3;passage 2 9 0;");
        Checks.due("20: now", x.best(0, 0, 4), 1);
        // in valley 1 the air goes in in HOURS 6 to 8: let go at the cleft in still air, or then
        Checks.passTo(x, 3);
        Checks.due("20: still ones too", x.best(1, 0, 4), 15);
        Checks.passTo(x, 2);
        Checks.due("20: none", x.best(0, 0, 5), 0);
        Checks.due("20: no such valley", x.best(2, 0, 4), -1);
        Checks.due("20: no such cell", x.best(0, 10, 4), -1);
        Checks.due("20: no such weight", x.best(0, 0, 10), -1);
        Checks.due("20: no such weight", x.best(0, 0, 0), -1);
        BreathingHill y = Checks.hill("breath 12 12 1 12;passage 2 9 0;");
        Checks.passTo(y, 11);
        Checks.due("20: bit 26 is the first of the next breath", y.best(0, 0, 4) >> 26, 1);
        Checks.passTo(y, 25);
        Checks.due("20: HOURS 25 to 37", y.best(0, 0, 4), (1 << 13) - 1);
        BreathingHill w = Checks.hill("breath 12 12 12 12;held 1;passage 2 9 0;");
        Checks.passTo(w, 48);
        Checks.due("20: thirty hours", w.best(0, 0, 4), (1 << 30) - 1);
        BreathingHill z = Checks.hill("breath 2 0 2 0;passage 2 9 0;");
        Checks.passTo(z, 996);
        Checks.due("20: the last breath", z.best(0, 0, 4), 1);
        Checks.passTo(z, 997);
        Checks.due("20: too late", z.best(0, 0, 4), 0);
        Checks.due("20: by hour 1000", z.best(1, 0, 4), 2);
        Checks.passTo(z, 1000);
        Checks.due("20: all over", z.best(0, 0, 4), 0);
    }

    private static void promise21Soonest() {
        BreathingHill x = Checks.hill(LAND);
        int[] hours = {0, 4, 5, 5, 6, 6};
        for (int cell = 0; cell < 6; cell++) {
            Checks.due("21: soonest(0, " + cell + ")", x.soonest(0, cell), hours[cell]);
            BreathingHill y = Checks.hill(LAND);
            y.walk(0, cell);
            Checks.due("21: as he walks to " + cell, y.now(0), hours[cell]);
        }
        Checks.due("21: no such cell", x.soonest(0, 6), -1);
        Checks.due("21: no such cell", x.soonest(1, 5), -1);
        Checks.due("21: no such cell", x.soonest(0, -1), -1);
        Checks.due("21: no such man", x.soonest(2, 0), -1);
        Checks.due("21: no such man", x.soonest(-1, 0), -1);
        Checks.passTo(x, 996);
        Checks.due("21: hour 1000 is in time", x.soonest(0, 5), 3);
        Checks.passTo(x, 998);
        Checks.due("21: in time", x.soonest(0, 3), 2);
        Checks.due("21: not in time", x.soonest(0, 4), -1);
        Checks.passTo(x, 1000);
        Checks.due("21: he is there", x.soonest(0, 0), 0);
        Checks.due("21: all over", x.soonest(0, 1), -1);
    }

    private static void promise22Reach() {
        BreathingHill x = Checks.hill(LAND);
        int[] cells = {1, 1, 1, 1, 3, 15, 63};
        for (int n = 0; n < cells.length; n++) {
            Checks.due("22: reach(0, " + n + ")", x.reach(0, n), cells[n]);
        }
        Checks.due("22: reach(0, 60)", x.reach(0, 60), 63);
        Checks.due("22: reach(1, 60)", x.reach(1, 60), 31);
        Checks.due("22: reach(1, 4)", x.reach(1, 4), 1 << 4 | 1 << 3);
        Checks.due("22: reach(0, -1)", x.reach(0, -1), -1);
        Checks.due("22: reach(0, 61)", x.reach(0, 61), -1);
        Checks.due("22: reach(2, 0)", x.reach(2, 0), -1);
        Checks.due("22: reach(-1, 0)", x.reach(-1, 0), -1);
        Checks.passTo(x, 998);
        Checks.due("22: near the end", x.reach(0, 60), 15);
        BreathingHill y = Checks.hill("long 20 1;man p 0 19;");
        Checks.due("22: cell 19", y.reach(0, 0), 1 << 19);
    }

    private static void promise23Dry() {
        BreathingHill x = Checks.hill("long 20 20;breath 2 1 2 1;force 3;fade 5;");
        Checks.due("23: dry(0, 0, 1)", x.dry(0, 0, 1), 1);
        Checks.due("23: dry(0, 0, 3)", x.dry(0, 0, 3), 1);
        Checks.due("23: dry(0, 0, 4)", x.dry(0, 0, 4), 2);
        Checks.due("23: dry(0, 0, 7)", x.dry(0, 0, 7), 4);
        Checks.due("23: dry(1, 14, 99)", x.dry(1, 14, 99), 24 * 6 + 4);
        Checks.due("23: no force", x.dry(0, 15, 1), -1);
        Checks.due("23: dry(0, 0, 0)", x.dry(0, 0, 0), -1);
        Checks.due("23: dry(0, 0, 100)", x.dry(0, 0, 100), -1);
        Checks.due("23: dry(2, 0, 1)", x.dry(2, 0, 1), -1);
        Checks.due("23: dry(0, 20, 1)", x.dry(0, 20, 1), -1);
        Checks.due("23: dry(0, -1, 1)", x.dry(0, -1, 1), -1);
        Checks.passTo(x, 2);
        Checks.due("23: from now on", x.dry(0, 0, 1), 2);
        Checks.passTo(x, 998);
        Checks.due("23: in hour 999", x.dry(0, 0, 1), 2);
        Checks.due("23: none behind it", x.dry(0, 0, 4), -1);
        BreathingHill y = Checks.hill("breath 1 12 1 12;force 1;");
        Checks.due("23: 30 of 26 hours for 2", y.dry(0, 0, 30), 14 * 26 + 14);
        Checks.due("23: in 391", y.dry(0, 0, 31), 391);
        Checks.due("23: 400 at most", y.dry(0, 0, 32), -1);
        y.hours(3);
        Checks.due("23: 401", y.dry(0, 0, 31), -1);
        y.hours(1);
        Checks.due("23: just 400", y.dry(0, 0, 31), 400);
    }

    private static void promise24Which() {
        BreathingHill x = Checks.hill("breath 3 1 3 1;passage 3 2 5;passage 2 9 1;passage 3 1 5;passage 4 9 5;");
        Checks.due("24: two hours", Checks.which(x, 0, 0, 2, 1), 2);
        Checks.due("24: three hours", Checks.which(x, 0, 0, 3, 5), 5);
        Checks.due("24: another colour", Checks.which(x, 0, 0, 3, 1), 0);
        Checks.due("24: colour modulo 8", Checks.which(x, 0, 0, 3, 13), 5);
        Checks.due("24: it came back", Checks.which(x, 0, 0, 4, 5), 0);
        Checks.due("24: in still air", Checks.which(x, 0, 3, 2, 1), 0);
        Checks.due("24: against the air", Checks.which(x, 0, 4, 2, 1), 0);
        Checks.due("24: in valley 1", Checks.which(x, 1, 4, 2, 1), 2);
        Checks.due("24: in valley 1", Checks.which(x, 1, 0, 2, 1), 0);
        Checks.due("24: at hour 248", Checks.which(x, 0, 248, 3, 5), 5);
        Checks.due("24: valley 2", Checks.which(x, 2, 0, 2, 1), -1);
        Checks.due("24: the tape is empty then", x.count(7), 0);
        Checks.due("24: an empty tape", x.which(), -1);
        Checks.put(x, new byte[] {0, 0, 2});
        Checks.due("24: three bytes", x.which(), -1);
        Checks.put(x, new byte[] {0, 0, 2, 1, 0});
        Checks.due("24: five bytes", x.which(), -1);
        Checks.due("24: the tape is empty then too", x.count(7), 0);
        x.hours(7);
        Checks.due("24: from hour 0, not from now", Checks.which(x, 0, 0, 2, 1), 2);
        Checks.due("24: no hours", Checks.which(x, 0, 0, 0, 0), 0);
        Checks.due("24: 255 hours", Checks.which(x, 0, 0, 255, 1), 0);
    }

    /** HOURS inside as a thing is seen to be there. */
    private static void promise24WhichByHours() {
        for (int length = 2; length <= 9; length++) {
            String land = "long 20 20;breath 6 2 3 1;held 2;force 1;passage " + length + " 9 3;thing a 0 0 1 0;";
            BreathingHill x = Checks.hill(land);
            int inside = 0;
            while (x.thing(0, 7) == 0 && x.now(0) < 100) {
                x.hours(1);
                inside = x.thing(0, 0) == 0 ? 0 : inside + 1;
            }
            boolean came = x.thing(0, 7) == 1 && x.now(0) == inside;
            for (int hours = 0; hours < 100; hours++) {
                int want = came && hours == inside ? 1 : 0;
                Checks.due("24: length " + length + ", " + hours + " hours", Checks.which(Checks.hill(land), 0, 0, hours, 3), want);
            }
        }
    }

    private static void promise25Ties() {
        BreathingHill x = Checks.hill(LAND);
        Checks.due("25: ties(0, 1)", x.ties(0, 1), 0);
        Checks.due("25: ties(15, 1)", x.ties(15, 1), 6);
        Checks.due("25: ties(15, 2)", x.ties(15, 2), 6);
        Checks.due("25: ties(15, 3)", x.ties(15, 3), 7);
        Checks.due("25: ties(3, 200)", x.ties(3, 200), 3);
        Checks.due("25: tied ones are not asked for", x.ties(8, 200), 0);
        Checks.due("25: ties(16, 1)", x.ties(16, 1), -1);
        Checks.due("25: ties(-1, 1)", x.ties(-1, 1), -1);
        Checks.due("25: ties(15, 0)", x.ties(15, 0), -1);
        Checks.due("25: ties(15, 201)", x.ties(15, 201), -1);
        x.hours(1);
        Checks.due("25: neither those inside nor lost ones", x.ties(15, 200), 1);
        BreathingHill y = Checks.hill("thing a 0 9 1 0;thing b 0 0 9 0;");
        Checks.passTo(y, 999);
        Checks.due("25: till hour 999", y.ties(3, 200), 0);
        Checks.passTo(y, 1000);
        Checks.due("25: all over", y.ties(3, 200), 0);
    }

    private static void promise26Turn() {
        BreathingHill x = Checks.hill("breath 2 0 3 0;held 1;");
        int[] turns = {2, 5, 10, 12, 15, 17, 20, 22, 25};
        for (int n = 1; n <= 9; n++) {
            Checks.due("26: turn(" + n + ")", x.turn(n), turns[n - 1]);
        }
        Checks.due("26: turn(0)", x.turn(0), -1);
        Checks.due("26: turn(10)", x.turn(10), -1);
        Checks.due("26: turn(-1)", x.turn(-1), -1);
        Checks.passTo(x, 2);
        Checks.due("26: later than this one", x.turn(1), 5);
        Checks.passTo(x, 994);
        Checks.due("26: near the end", x.turn(2), 997);
        Checks.due("26: none till hour 999", x.turn(3), -1);
        Checks.passTo(x, 999);
        Checks.due("26: none", x.turn(1), -1);
        Checks.passTo(x, 1000);
        Checks.due("26: all over", x.turn(1), -1);
        BreathingHill y = Checks.hill("breath 1 1 1 1;");
        Checks.passTo(y, 998);
        Checks.due("26: hour 999 is one", y.turn(1), 999);
    }

    private static void promise27Guard() {
        BreathingHill x = Checks.hill("long 20 5;thing a 0 3 1 0;thing b 0 9 1 0;thing c 0 13 1 0;thing d 0 14 1 0;"
            + "thing e 0 0 1 0 tied;thing f 0 1 1 0 tied;thing g 1 4 1 0;");
        Checks.due("27: two of them, the least of like ones", x.guard(0), 11);
        Checks.due("27: no more than 2 cells from it", x.guard(1), 2);
        x.tie(3, 1);
        Checks.due("27: two of them", x.guard(0), 11);
        x.tie(2, 1);
        Checks.due("27: one of two", x.guard(0), 1);
        x.tie(6, 1);
        Checks.due("27: none is loose", x.guard(1), -1);
        Checks.due("27: guard(2)", x.guard(2), -1);
        Checks.due("27: guard(-1)", x.guard(-1), -1);
        BreathingHill z = Checks.hill("long 20 5;thing a 0 1 1 0;thing b 0 2 1 0;thing c 0 11 1 0;thing d 0 12 1 0;"
            + "thing e 0 15 1 0;");
        Checks.due("27: most of them", z.guard(0), 13);
        BreathingHill y = Checks.hill("passage 2 9 1;thing a 0 0 1 0;thing b 0 2 1 0;");
        Checks.due("27: cell 0", y.guard(0), 0);
        y.hours(1);
        Checks.due("27: what is inside is not there", y.guard(0), 0);
        y.hours(1);
        Checks.due("27: nothing is there", y.guard(0), -1);
        Checks.due("27: over there", y.guard(1), 0);
    }

    private static void promise28Prices() {
        BreathingHill x = new BreathingHill();
        Checks.due("28: rest at once", x.prices(), 1);
        BreathingHill y = Checks.hill(LAND);
        Checks.due("28: rest by the fourth", y.prices(), 4);
        Checks.due("28: price 0", y.price(0), 7);
        Checks.due("28: price 1", y.price(1), 13);
        BreathingHill z = Checks.hill("thing a 1 0 9 0;thing b 0 0 9 0;thing c 1 0 9 0;");
        Checks.due("28: never", z.prices(), 40);
        Checks.due("28: price 0 goes up", z.price(0), 50);
        Checks.due("28: price 1 goes down", z.price(1), -30);
        z.hours(3);
        Checks.due("28: anew", z.prices(), 40);
        Checks.due("28: from 10 again", z.price(0), 50);
        Checks.passTo(z, 1000);
        Checks.due("28: all over", z.prices(), 40);
        Checks.due("28: rounds go on", z.price(0), 50);
        BreathingHill w = Checks.hill("breath 1 0 1 0;force 1;long 20 20;thing a 0 0 1 0;thing b 1 0 9 0 tied;thing c 1 19 1 0;");
        Checks.due("28: lost in hour 0", w.prices(), 2);
        Checks.due("28: price 0", w.price(0), 11);
    }

    private static void promise29Price() {
        BreathingHill x = new BreathingHill();
        Checks.due("29: ahead of any", x.price(0), -1);
        x.prices();
        Checks.due("29: price(0)", x.price(0), 10);
        Checks.due("29: price(1)", x.price(1), 10);
        Checks.due("29: price(2)", x.price(2), -1);
        Checks.due("29: price(-1)", x.price(-1), -1);
        Checks.put(x, "thing a 0 0 9 0;");
        x.land();
        Checks.due("29: the latest", x.price(0), 10);
        x.prices();
        Checks.due("29: the latest then", x.price(0), -30);
    }

    private static void promise30Later() {
        BreathingHill x = Checks.hill(LAND);
        int[] otto = {3, 1, 0, 201, 201, 0, 2};
        for (int n = 0; n < otto.length; n++) {
            Checks.due("30: later(0, " + n + ")", x.later(0, n), otto[n]);
        }
        Checks.due("30: beyond", x.later(1, 2), 100);
        Checks.due("30: beyond, carried", x.later(1, 3), 101);
        Checks.due("30: lost", x.later(2, 1), 300);
        Checks.due("30: tied", x.later(3, 400), 5);
        Checks.due("30: later(0, -1)", x.later(0, -1), -1);
        Checks.due("30: later(0, 401)", x.later(0, 401), -1);
        Checks.due("30: later(4, 0)", x.later(4, 0), -1);
        Checks.due("30: later(-1, 0)", x.later(-1, 0), -1);
        for (int n = 0; n <= 40; n++) {
            BreathingHill y = Checks.hill(LAND);
            Checks.passTo(y, n);
            int where = y.thing(1, 0);
            Checks.due("30: later(1, " + n + ")", x.later(1, n), where == 3 ? 300 : 100 * where + y.thing(1, 1));
        }
        Checks.passTo(x, 1000);
        Checks.due("30: all over", x.later(3, 400), 5);
    }

    private static void promise31Meet() {
        BreathingHill x = Checks.hill("long 20 20;force 4;breath 5 1 5 1;thing a 0 9 1 0;thing b 0 4 4 0;thing c 0 9 9 0;"
            + "thing d 1 9 9 0;thing e 0 19 9 0;");
        // a is carried 9, 5, 1, 0 and b 4, 3, 2, 1, 0
        Checks.due("31: at the cleft", x.meet(0, 1), 3);
        Checks.due("31: the other way round", x.meet(1, 0), 3);
        Checks.due("31: they are", x.meet(0, 2), -1);
        Checks.due("31: not of another valley", x.meet(2, 3), -2);
        Checks.due("31: never", x.meet(2, 4), -2);
        Checks.due("31: alike", x.meet(2, 2), -2);
        Checks.due("31: no such one", x.meet(0, 5), -2);
        Checks.due("31: no such one", x.meet(-1, 0), -2);
        x.hours(1);
        Checks.due("31: the hour, not how many", x.meet(0, 1), 3);
        x.hours(3);
        Checks.due("31: they are: this hour less 1", x.meet(0, 1), 3);
        BreathingHill y = Checks.hill("breath 3 0 3 0;passage 4 9 0;thing a 0 0 1 0;thing b 0 0 2 0;");
        y.hours(1);
        Checks.due("31: what is inside is in no cell of a valley", y.meet(0, 1), 5);
        BreathingHill z = Checks.hill("long 20 20;breath 1 12 1 12;force 9;held 0;thing a 0 19 9 0;thing b 0 10 1 0;");
        Checks.due("31: they meet in breath 1", z.meet(0, 1) >= 26 || z.meet(0, 1) == -2, true);
        BreathingHill w = Checks.hill("long 20 20;breath 1 12 1 12;force 1;fade 1;thing a 0 0 1 0 tied;thing b 0 1 1 0;");
        Checks.due("31: never without force", w.meet(0, 1), -2);
        meetIn200();
    }

    /** 200 HOURS are looked at, not 201. */
    private static void meetIn200() {
        String land = "long 20 20;breath 2 12 1 12;force 1;thing a 0 0 1 0 tied;thing b 0 12 1 0;";
        BreathingHill x = Checks.hill(land);
        // it does not come to the cleft in the first eight BREATHS
        int hour = 8 * 27;
        BreathingHill y = Checks.hill(land);
        Checks.passTo(y, hour);
        while (y.thing(1, 1) != 0) {
            y.hours(1);
            hour++;
        }
        Checks.due("31: in " + hour + " hours", x.meet(0, 1), hour > 200 ? -2 : hour - 1);
        int first = hour - 200;
        Checks.due("31: it is more than 201 hours", first > 1, true);
        Checks.passTo(x, first - 1);
        Checks.due("31: 201 hours away", x.meet(0, 1), -2);
        Checks.passTo(x, first);
        Checks.due("31: 200 hours away", x.meet(0, 1), hour - 1);
    }

    private static void promise33Odds() {
        String land = "breath 3 0 3 0;passage 2 3 1;passage 4 9 5;thing a 0 0 1 3;thing b 1 0 4 0;thing c 0 5 9 0 tied;";
        BreathingHill x = Checks.hill(land);
        int most = 0;
        for (int t = 0; t < 3; t++) {
            int home = x.thing(t, 0);
            for (int seed = 1; seed <= 12; seed++) {
                int beyond = 0;
                for (int k = 0; k < 5; k++) {
                    BreathingHill y = Checks.hill(land);
                    y.drawn(50, seed * 7919 + k);
                    beyond += y.thing(t, 0) == 1 - home ? 1 : 0;
                }
                Checks.due("33: odds(" + t + ", 5, ..)", x.odds(t, 5, seed * 7919), beyond);
                most = Math.max(most, beyond);
            }
        }
        Checks.due("33: some were beyond", most > 0, true);
        Checks.due("33: odds(3, 1, 1)", x.odds(3, 1, 1), -1);
        Checks.due("33: odds(-1, 1, 1)", x.odds(-1, 1, 1), -1);
        Checks.due("33: odds(0, 0, 1)", x.odds(0, 0, 1), -1);
        Checks.due("33: odds(0, 31, 1)", x.odds(0, 31, 1), -1);
        Checks.due("33: 30 seeds", x.odds(2, 30, Integer.MAX_VALUE), 0);
        int one = 0;
        for (int k = 0; k < 30; k++) {
            one += x.odds(0, 1, Integer.MAX_VALUE - 9 + k);
        }
        Checks.due("33: one by one", x.odds(0, 30, Integer.MAX_VALUE - 9), one);
        BreathingHill z = Checks.hill("breath 12 0 1 0;passage 2 9 0;long 20 20;thing a 0 0 4 0;");
        z.hours(2);
        z.tie(0, 1);
        Checks.due("33: it is beyond now", z.thing(0, 0), 1);
        Checks.passTo(z, 1000);
        Checks.due("33: beyond where it was told, all over", z.odds(0, 30, 5), 30);
    }

    /** None of the questions changes anything. */
    private static void promise18To34NothingIsChanged() {
        BreathingHill x = Checks.hill(LAND);
        x.hours(1);
        x.best(0, 0, 4);
        x.heaviest(0, 0, 0, 400);
        x.ties(15, 200);
        x.prices();
        x.later(0, 400);
        x.meet(0, 1);
        x.odds(0, 30, 3);
        x.reach(0, 60);
        Checks.log(x, "hour 60;", 0);
        Checks.due("18 to 34: the hour", x.now(0), 1);
        Checks.due("18 to 34: a thing", x.thing(0, 1), 1);
        Checks.due("18 to 34: inside", x.now(3), 2);
        Checks.due("18 to 34: his hours", x.man(0, 2), 0);
        Checks.due("18 to 34: what can be undone", x.undo(), 0);
    }
}
