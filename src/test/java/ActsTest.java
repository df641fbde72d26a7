/** Promises 13 to 15, 17, 32, 38 and 39: ties, walks, coughs, draws, acts undone, images. */
public final class ActsTest {
    private static final String SETTING = "long 10 10;breath 3 1 3 1;force 4;fade 5;passage 3 2 5;passage 2 9 1;";

    public static void main(String[] args) throws IllegalAccessException {
        Checks.run(ActsTest.class);
    }

    private static void promise13Tie() {
        BreathingHill x = Checks.hill(SETTING + "thing a 0 0 4 0;thing b 1 9 1 0;thing c 0 4 9 0 tied;");
        Checks.due("13: no such thing", x.tie(3, 1), -1);
        Checks.due("13: no such thing", x.tie(-1, 1), -1);
        Checks.due("13: no such on", x.tie(0, 2), -1);
        Checks.due("13: no such on", x.tie(0, -1), -1);
        Checks.due("13: tied already", x.tie(2, 1), 3);
        Checks.due("13: loosed", x.tie(2, 0), 0);
        Checks.due("13: it is loose", x.thing(2, 5), 0);
        Checks.due("13: not tied", x.tie(2, 0), 2);
        x.hours(1);
        Checks.due("13: tie what is inside", x.tie(0, 1), 2);
        Checks.due("13: loose what is inside", x.tie(0, 0), 2);
        Checks.due("13: tie what is lost", x.tie(1, 1), 1);
        Checks.due("13: loose what is lost", x.tie(1, 0), 1);
        Checks.due("13: tied", x.tie(2, 1), 0);
        Checks.due("13: it is tied", x.thing(2, 5), 1);
        Checks.due("13: no hour goes by", x.now(0), 1);
    }

    private static void promise14Walk() {
        BreathingHill x = Checks.hill(SETTING + "thing a 0 0 4 0;mill m 0 0;man p 0 0;man q 1 9;");
        Checks.due("14: no such man", x.walk(2, 0), -1);
        Checks.due("14: no such man", x.walk(-1, 0), -1);
        Checks.due("14: no such cell", x.walk(0, 10), -1);
        Checks.due("14: no such cell", x.walk(0, -1), -1);
        Checks.due("14: he is there", x.walk(0, 0), 1);
        Checks.due("14: no hour went by", x.now(0), 0);
        // in valley 0 HOURS 0 to 2 hold him back, 3 is still, 4 to 6 go with him
        Checks.due("14: walks", x.walk(0, 6), 0);
        Checks.due("14: his cell", x.man(0, 1), 6);
        Checks.due("14: his hours", x.man(0, 2), 7);
        Checks.due("14: the hour", x.now(0), 7);
        Checks.due("14: the mill turned meanwhile", x.mill(0, 2), 6);
        Checks.due("14: the thing went over and back meanwhile", x.thing(0, 7), 2);
        Checks.due("14: another man stands", x.man(1, 1), 9);
    }

    private static void promise14WalkBySteps() {
        // far from the cleft the FORCE is below 4: against the air he goes 1 cell
        BreathingHill x = Checks.hill(SETTING + "man p 0 5;man q 0 4;man r 1 0;man s 1 9;");
        Checks.due("14: against weak air", x.soonest(0, 7), 2);
        Checks.due("14: against strong air", x.soonest(1, 5), 4);
        Checks.due("14: with the air", x.soonest(1, 0), 2);
        Checks.due("14: with the air, 1 away", x.soonest(1, 3), 1);
        Checks.due("14: with the air, 3 away", x.soonest(1, 1), 2);
        Checks.due("14: in valley 1 the other way round", x.soonest(2, 4), 2);
        Checks.due("14: against, into the strong air", x.soonest(3, 0), 9 - 2);
        Checks.due("14: walks", x.walk(3, 0), 0);
        Checks.due("14: his hours", x.man(3, 2), 7);
        BreathingHill y = Checks.hill("long 20 20;breath 12 0 12 0;force 1;fade 1;man p 0 10;");
        Checks.due("14: the air goes his way even where it has no force", y.soonest(0, 0), 5);
        Checks.due("14: against no force", y.soonest(0, 19), 9);
        BreathingHill z = Checks.hill("long 20 20;breath 12 0 12 0;force 4;fade 20;held 1;man p 0 10;");
        Checks.due("14: held back for half a breath", z.soonest(0, 11), 13);
        Checks.passTo(z, 24);
        Checks.due("14: the breath that is held", z.soonest(0, 15), 5);
    }

    private static void promise14WalkEnds() {
        String land = "breath 12 0 12 0;man p 0 0;thing a 0 5 9 0;";
        BreathingHill x = Checks.hill(land);
        // HOURS 984 to 995 hold him back, 996 to 999 go with him
        Checks.passTo(x, 984);
        Checks.due("14: it would be above hour 1000", x.walk(0, 9), 2);
        Checks.due("14: it is hour 1000", x.walk(0, 8), 0);
        Checks.due("14: he walked sixteen hours", x.man(0, 2), 16);
        BreathingHill y = Checks.hill(land);
        Checks.passTo(y, 999);
        Checks.due("14: above hour 1000", y.walk(0, 3), 2);
        Checks.due("14: the hour stays", y.now(0), 999);
        Checks.due("14: his cell stays", y.man(0, 1), 0);
        Checks.due("14: his hours stay", y.man(0, 2), 0);
        Checks.due("14: nothing more to undo", y.undo(), 7);
        BreathingHill z = Checks.hill(land);
        Checks.passTo(z, 999);
        Checks.due("14: hour 1000 is in time", z.walk(0, 2), 0);
        Checks.due("14: all over", z.now(0), 1000);
        Checks.due("14: none is left", z.walk(0, 1), 2);
        Checks.due("14: he is there", z.walk(0, 2), 1);
    }

    private static void promise15Cough() {
        BreathingHill x = Checks.hill("breath 3 0 3 0;passage 9 9 5;thing a 0 0 1 3;thing b 1 9 9 0;thing c 1 0 9 0;");
        Checks.due("15: nothing is inside", x.cough(), 1);
        x.hours(2);
        Checks.due("15: inside", x.now(3), 1);
        Checks.due("15: coughs", x.cough(), 0);
        int[] want = {0, 0, -1, -1, 3, 0, 1, 0};
        for (int what = 0; what < want.length; what++) {
            Checks.due("15: thing(0, " + what + ")", x.thing(0, what), want[what]);
        }
        Checks.due("15: no hour goes by", x.now(0), 2);
        Checks.due("15: nothing is inside then", x.cough(), 1);
        BreathingHill y = Checks.hill("breath 1 0 3 0;force 1;passage 9 9 5;thing a 1 0 1 3;thing b 0 0 1 3;thing c 0 0 2 0;");
        y.hours(4);
        Checks.due("15: valley 1", y.thing(0, 3), 1);
        Checks.due("15: coughs", y.cough(), 0);
        int[] beyond = {0, 0, -1, -1, 3, 0, 1, 0};
        for (int what = 0; what < beyond.length; what++) {
            Checks.due("15: from valley 1: thing(0, " + what + ")", y.thing(0, what), beyond[what]);
        }
    }

    private static void promise17Undo() {
        BreathingHill x = Checks.hill(SETTING + "thing a 0 0 4 0;thing b 1 9 1 0;mill m 0 0;man p 0 0;");
        Checks.due("17: none", x.undo(), -1);
        x.tie(1, 1);
        x.hours(1);
        x.cough();
        x.walk(0, 3);
        x.drawn(5, 3);
        Checks.log(x, "hour 2;b looses;", 1);
        Checks.due("17: undo log", x.undo(), 5);
        Checks.due("17: undo drawn", x.undo(), 4);
        Checks.due("17: hour behind the walk", x.now(0), 5);
        Checks.due("17: undo walk", x.undo(), 3);
        Checks.due("17: his cell", x.man(0, 1), 0);
        Checks.due("17: his hours", x.man(0, 2), 0);
        Checks.due("17: the mill", x.mill(0, 2), 1);
        Checks.due("17: the hour", x.now(0), 1);
        Checks.due("17: undo cough", x.undo(), 2);
        Checks.due("17: inside again", x.thing(0, 0), 2);
        Checks.due("17: undo hours", x.undo(), 1);
        Checks.due("17: the hour", x.now(0), 0);
        Checks.due("17: undo tie", x.undo(), 0);
        Checks.due("17: loose again", x.thing(1, 5), 0);
        Checks.due("17: none is left", x.undo(), -1);
    }

    private static void promise17WhatIsKept() {
        BreathingHill x = Checks.hill("thing a 0 9 9 0;man p 0 0;");
        for (int k = 1; k <= 11; k++) {
            x.hours(1);
        }
        for (int k = 7; k >= 0; k--) {
            Checks.due("17: eight are kept", x.undo(), k);
            Checks.due("17: the hour", x.now(0), 3 + k);
        }
        Checks.due("17: no more", x.undo(), -1);
        Checks.due("17: the hour stays", x.now(0), 3);
        x.hours(0);
        x.tie(0, 0);
        x.tie(5, 0);
        x.walk(0, 0);
        x.walk(0, 10);
        x.cough();
        x.drawn(0, 0);
        Checks.log(x, "a looses", 1);
        Checks.log(x, "a ties;", 0);
        Checks.log(x, "a ties;", 2);
        Checks.due("17: what was not done", x.undo(), -1);
        Checks.passTo(x, 1000);
        while (x.undo() > 0) {
            Checks.due("17: going back", x.now(0) < 1000, true);
        }
        Checks.passTo(x, 1000);
        BreathingHill y = Checks.hill("thing a 0 9 9 0;");
        y.tie(0, 1);
        Checks.put(y, "a looses;");
        y.log(1);
        Checks.due("17: a log is one act", y.undo(), 1);
        Checks.due("17: tied", y.thing(0, 5), 1);
    }

    private static void promise17WhatIsUndone() {
        BreathingHill x = Checks.hill("thing a 0 9 9 0;");
        x.hours(1);
        x.hours(1);
        Checks.sentence(x, "number = 0");
        x.prices();
        Checks.log(x, "hour 7;", 0);
        Checks.due("17: undo", x.undo(), 1);
        Checks.due("17: the sentence stays", x.said(-1), 1);
        Checks.due("17: the prices stay", x.price(0), -30);
        Checks.due("17: what was logged stays", x.logged(2), 9);
        BreathingHill y = Checks.hill("thing a 0 9 9 0;");
        y.drawn(1, 3);
        Checks.due("17: one hour drawn", y.undo(), 0);
        Checks.passTo(y, 1000);
        y.image(0);
        y.restore(0);
        Checks.due("17: hours() of 0 ", y.hours(1), 0);
        Checks.due("17: is not kept", y.undo(), -1);
        Checks.due("17: drawn() of 0 ", y.drawn(1, 1), 0);
        Checks.due("17: is not kept either", y.undo(), -1);
        BreathingHill z = Checks.hill("breath 4 0 1 0;passage 2 1 0;passage 3 9 5;thing a 0 0 4 6;mill m 0 0;");
        String[] states = new String[7];
        for (int k = 0; k < 7; k++) {
            states[k] = state(z);
            z.hours(1);
        }
        for (int k = 6; k >= 0; k--) {
            Checks.due("17: undo", z.undo(), k);
            Checks.due("17: all is so again", state(z).equals(states[k]), true);
        }
    }

    private static String state(BreathingHill x) {
        StringBuilder text = new StringBuilder();
        for (int what = 0; what < 7; what++) {
            text.append(x.now(what)).append(' ');
        }
        for (int t = 0; t < x.count(3); t++) {
            for (int what = 0; what < 8; what++) {
                text.append(x.thing(t, what)).append(' ');
            }
        }
        for (int m = 0; m < 4; m++) {
            text.append(x.mill(m, 2)).append(' ').append(x.man(m, 1)).append(' ').append(x.man(m, 2)).append(' ');
        }
        return text.toString();
    }

    private static void promise32Drawn() {
        BreathingHill x = new BreathingHill();
        Checks.due("32: no things", x.drawn(1, 1), -1);
        BreathingHill y = Checks.hill("thing a 0 9 9 0;");
        Checks.due("32: drawn(0, 1)", y.drawn(0, 1), -1);
        Checks.due("32: drawn(61, 1)", y.drawn(61, 1), -1);
        Checks.due("32: drawn(60, 1)", y.drawn(60, 1), 60);
        Checks.due("32: the hour", y.now(0), 60);
        Checks.passTo(y, 990);
        Checks.due("32: those that are left", y.drawn(60, 1), 10);
        Checks.due("32: none is left", y.drawn(60, 1), 0);
    }

    /** The draws made here once more, the acts by the calls of the face. */
    private static void promise32DrawnByHand() {
        String land = "breath 3 0 3 0;passage 4 9 5;passage 2 3 1;thing a 0 0 1 3;thing b 1 0 2 0;thing c 0 5 9 0 tied;mill m 0 3;";
        int ties = 0;
        int coughs = 0;
        for (int seed = -40; seed < 40; seed++) {
            BreathingHill x = Checks.hill(land);
            BreathingHill y = Checks.hill(land);
            int s = seed * 99991;
            Checks.due("32: drawn(40, " + s + ")", x.drawn(40, s), 40);
            int drawn = s;
            for (int hour = 0; hour < 40; hour++) {
                drawn = drawn * 1103515245 + 12345;
                if ((drawn >>> 8) % 20 == 0) {
                    drawn = drawn * 1103515245 + 12345;
                    int t = (drawn >>> 8) % 3;
                    ties += y.tie(t, 0) == 0 || y.tie(t, 1) == 0 ? 1 : 0;
                }
                drawn = drawn * 1103515245 + 12345;
                if ((drawn >>> 8) % 30 == 0) {
                    coughs += y.cough() == 0 ? 1 : 0;
                }
                y.hours(1);
            }
            Checks.due("32: all is so by seed " + s, state(x).equals(state(y)), true);
            Checks.due("32: one act", x.undo(), 0);
        }
        Checks.due("32: things were tied", ties > 0, true);
        Checks.due("32: it coughed", coughs > 0, true);
    }

    private static void promise38Image() {
        BreathingHill x = Checks.hill("thing a 0 9 9 0;");
        Checks.due("38: image(-1)", x.image(-1), false);
        Checks.due("38: image(2)", x.image(2), false);
        Checks.due("38: nothing is kept", x.restore(0), false);
        x.hours(2);
        Checks.due("38: image(0)", x.image(0), true);
        x.hours(2);
        Checks.due("38: image(1)", x.image(1), true);
        Checks.due("38: it leaves what can be undone", x.undo(), 1);
        x.hours(5);
        Checks.due("38: restore(0)", x.restore(0), true);
        Checks.due("38: the hour", x.now(0), 2);
        Checks.due("38: restore(1)", x.restore(1), true);
        Checks.due("38: the hour", x.now(0), 4);
        Checks.due("38: image(0) again", x.image(0), true);
        x.hours(1);
        x.restore(0);
        Checks.due("38: the newer one", x.now(0), 4);
        x.tie(0, 1);
        x.restore(0);
        Checks.due("38: an image does not change", x.thing(0, 5), 0);
    }

    private static void promise39Restore() {
        BreathingHill x = Checks.hill("long 5 6;breath 3 0 3 0;force 3;fade 2;held 7;passage 4 9 5;thing a 0 0 1 3;"
            + "mill m 0 3;man p 0 2;");
        Checks.due("39: restore(-1)", x.restore(-1), false);
        Checks.due("39: restore(2)", x.restore(2), false);
        Checks.due("39: restore(0)", x.restore(0), false);
        Checks.sentence(x, "inside");
        x.hours(1);
        x.walk(0, 1);
        String before = state(x);
        x.image(0);
        Checks.due("39: restore(1) is still none", x.restore(1), false);
        Checks.put(x, "long 1 1;");
        Checks.due("39: a new land", x.land(), 1);
        x.hours(1);
        Checks.log(x, "hour 3;", 0);
        x.prices();
        Checks.put(x, "x");
        Checks.log(x, "x ties;", 0);
        Checks.put(x, "xyz");
        Checks.due("39: restore(0)", x.restore(0), true);
        Checks.due("39: all is so", state(x).equals(before), true);
        int[] counts = {5, 6, 1, 1, 1, 1, 6, 3};
        for (int what = 0; what < counts.length; what++) {
            Checks.due("39: count(" + what + ")", x.count(what), counts[what]);
        }
        Checks.due("39: force", x.force(0, 4), 1);
        Checks.due("39: held", x.air(0, 42), 0);
        Checks.due("39: the sentence", x.said(-1), 1);
        Checks.due("39: nothing can be undone", x.undo(), -1);
        Checks.due("39: the fault stays", x.fault(), 3);
        Checks.due("39: the prices stay", x.price(0), 10);
        Checks.due("39: what was logged stays", x.logged(2), 4);
        Checks.due("39: names too", Checks.log(x, "a ties;p walks 0;", 0), 0);
        BreathingHill z = Checks.hill("breath 4 0 1 0;passage 2 1 0;passage 3 9 5;thing a 0 0 4 6;mill m 0 0;");
        z.hours(2);
        String inside = state(z);
        z.image(1);
        z.hours(2);
        z.restore(1);
        Checks.due("39: inside again", state(z).equals(inside), true);
        z.hours(2);
        Checks.due("39: beyond once", z.thing(0, 7), 1);
        BreathingHill y = Checks.hill("thing a 0 0 1 3;");
        y.image(1);
        Checks.sentence(y, "lost");
        y.restore(1);
        Checks.due("39: no sentence was kept", y.said(-1), -1);
    }
}
