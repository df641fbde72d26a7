/** Promises 34 to 37: logs judged and lived, sentences, and what may be said of which thing. */
public final class SayingTest {
    private static final String LAND = "long 6 5;breath 3 1 3 1;force 4;fade 5;passage 3 2 5;passage 2 9 1;"
        + "thing otto 0 3 2 1;thing kiki 0 0 4 0;thing lo 1 4 2 2;thing pila 0 5 9 7 tied;"
        + "mill la 0 5;man po 0 0;man bo 1 4;";

    public static void main(String[] args) throws IllegalAccessException {
        Checks.run(SayingTest.class);
    }

    private static void promise34Log() {
        BreathingHill x = Checks.hill(LAND);
        Checks.due("34: an empty log", x.log(0), -1);
        Checks.due("34: judged", Checks.log(x, "otto ties;hour 2;lo ties;", 0), 2);
        Checks.due("34: the tape is empty", x.count(7), 0);
        Checks.due("34: all stays", x.now(0), 0);
        Checks.due("34: all stays", x.thing(0, 5), 0);
        Checks.due("34: nothing to undo", x.undo(), -1);
        Checks.due("34: none is wrong", Checks.log(x, "otto ties;otto looses;hour 60;po walks 5;", 0), -1);
        Checks.put(x, "hour 1;");
        Checks.due("34: another lives", x.log(2), -1000);
        Checks.due("34: another lives", x.log(-1), -1000);
        Checks.due("34: the tape stays", x.count(7), 7);
        Checks.due("34: it is lived", x.log(1), -1);
        Checks.due("34: an hour", x.now(0), 1);
    }

    private static void promise34LogLived() {
        BreathingHill x = Checks.hill(LAND);
        Checks.due("34: lived", Checks.log(x, "otto ties; hour 1;\ncoughs;po walks 5;pila looses;", 1), -1);
        Checks.due("34: tied", x.thing(0, 5), 1);
        Checks.due("34: coughed out", x.thing(1, 0) == 2, false);
        Checks.due("34: walked", x.man(0, 1), 5);
        Checks.due("34: hours", x.now(0), 6);
        Checks.due("34: loosed", x.thing(3, 5), 0);
        Checks.due("34: one act", x.undo(), 0);
        Checks.due("34: undone", x.now(0), 0);
        Checks.due("34: as far as it is not wrong", Checks.log(x, "hour 1;otto ties;otto ties;hour 5;", 1), 2);
        Checks.due("34: one hour", x.now(0), 1);
        Checks.due("34: tied", x.thing(0, 5), 1);
        Checks.due("34: undone", x.undo(), 0);
        Checks.due("34: a fault", Checks.log(x, "hour 1;otto ties", 1), -2 - 16);
        Checks.due("34: nothing is lived", x.now(0), 0);
        Checks.due("34: nothing to undo", x.undo(), -1);
    }

    private static void promise34LogFaults() {
        due34(";", 0, 1);
        due34("hour", 4, 1);
        due34("hour 1", 6, 1);
        due34("hour 1;;", 7, 1);
        due34("hour 0;", 5, 2);
        due34("hour 61;", 5, 2);
        due34("hour 1000;", 5, 1);
        due34("hour otto;", 5, 1);
        due34("hour 60;", -1, 0);
        due34("coughs 1;", 7, 1);
        due34("otto;", 4, 1);
        due34("otto ties", 9, 1);
        due34("otto ties 1;", 10, 1);
        due34("otto coughs;", 5, 1);
        due34("otto walks 1;", 5, 1);
        due34("po ties;", 3, 1);
        due34("po looses;", 3, 1);
        due34("po walks;", 8, 1);
        due34("po walks 20;", 9, 2);
        due34("bo walks 19;", 0, 0);
        due34("hour 1;la ties;", 7, 3);
        due34("la walks 1;", 0, 3);
        due34("nobody walks 1;", 0, 3);
        due34("nobody", 0, 3);
        due34("long 1 1;", 0, 1);
        due34("tied;", 0, 1);
        due34("ties;", 0, 1);
        due34("7;", 0, 1);
        due34("(", 0, 1);
    }

    private static void due34(String text, int answer, int kind) {
        BreathingHill x = Checks.hill(LAND);
        Checks.due("34: log of '" + text + "'", Checks.log(x, text, 0), kind == 0 ? answer : -2 - answer);
        Checks.due("34: fault of '" + text + "'", x.fault(), kind);
    }

    private static void promise34LogOfForty() {
        String forty = "hour 1;".repeat(40);
        due34(forty, -1, 0);
        due34(forty + " hour", 281, 4);
        due34(forty + "otto", 280, 4);
        due34(forty + "coughs;", 280, 4);
        due34(forty + "nobody ties;", 280, 3);
        due34(forty + "la ties;", 280, 3);
        due34(forty + "tied;", 280, 1);
        due34(forty + ";", 280, 1);
        due34(forty + "  ", -1, 0);
    }

    private static void promise34LogTooLong() {
        due34(Checks.padded("hour 1;", 400), -1, 0);
        due34(Checks.padded("hour 1;", 401), 400, 1);
        due34(Checks.padded("", 393) + "hour 1;", -1, 0);
        due34(Checks.padded("", 394) + "hour 1;", 400, 1);
        due34(Checks.padded("", 394) + "hour 99;", 399, 2);
        due34(Checks.padded("", 399) + "nobody", 399, 3);
        due34(Checks.padded("", 400) + "nobody", 400, 1);
    }

    private static void promise35Logged() {
        BreathingHill x = Checks.hill(LAND);
        for (int what = -1; what <= 4; what++) {
            Checks.due("35: ahead of any", x.logged(what), -1);
        }
        Checks.log(x, "oops;", 0);
        Checks.due("35: a fault is none", x.logged(0), -1);
        Checks.log(x, "hour 1;", 2);
        Checks.due("35: -1000 is none", x.logged(0), -1);
        x.log(0);
        logged(x, 0, 1, 1, 4);
        Checks.log(x, "lo ties;hour 1;kiki ties;hour 1;", 0);
        logged(x, 2, 2, 1, 0);
        Checks.log(x, "oops;", 0);
        Checks.log(x, "", 7);
        logged(x, 2, 2, 1, 0);
        Checks.due("35: logged(4)", x.logged(4), -1);
        Checks.due("35: logged(-1)", x.logged(-1), -1);
        Checks.log(x, "hour 4;", 1);
        logged(x, 0, 1, 4, 4);
        Checks.log(x, "", 0);
        logged(x, 0, 0, 4, 4);
        Checks.put(x, "");
        x.land();
        logged(x, 0, 0, 4, 4);
    }

    private static void logged(BreathingHill x, int... want) {
        for (int what = 0; what < want.length; what++) {
            Checks.due("35: logged(" + what + ")", x.logged(what), want[what]);
        }
    }

    private static void promise35WhyWrong() {
        why("hour 1;lo ties;", 1);
        why("hour 1;kiki ties;", 2);
        why("hour 1;pila ties;", 3);
        why("hour 1;lo looses;", 11);
        why("hour 1;otto looses;", 12);
        why("hour 1;kiki looses;", 12);
        why("hour 1;po walks 0;", 21);
        why("hour 1;po walks 6;", 29);
        why("hour 1;bo walks 5;", 29);
        why("otto ties;coughs;", 31);
        BreathingHill x = Checks.hill(LAND);
        Checks.passTo(x, 999);
        Checks.due("35: above hour 1000", Checks.log(x, "po walks 2;", 1), 0);
        Checks.due("35: 22", x.logged(0), 22);
        Checks.due("35: fewer hours", Checks.log(x, "pila looses;hour 2;", 1), 1);
        Checks.due("35: 41", x.logged(0), 41);
        Checks.due("35: the hour stays", x.logged(2), 999);
        Checks.due("35: none of them went by", x.now(0), 999);
        Checks.due("35: the line ahead of it was lived", x.thing(3, 5), 0);
        Checks.due("35: as many as are left", Checks.log(x, "hour 1;", 1), -1);
        Checks.due("35: hour 1000", x.logged(2), 1000);
        Checks.due("35: no more", Checks.log(x, "hour 1;", 1), 0);
        Checks.due("35: 41", x.logged(0), 41);
    }

    private static void why(String text, int reason) {
        BreathingHill x = Checks.hill(LAND);
        Checks.due("35: line of '" + text + "'", Checks.log(x, text, 0), 1);
        Checks.due("35: why '" + text + "'", x.logged(0), reason);
        Checks.due("35: lines of '" + text + "'", x.logged(1), 1);
    }

    private static void promise36Sentence() {
        due36("tied", 1, 0);
        due36(" tied or inside and\nbeyond or lost", 4, 0);
        due36("not tied", 2, 0);
        due36("(tied)", 2, 0);
        due36("not(not tied and(lost))", 6, 0);
        due36("cell<0 and weight=999 and colour>007 and number=1", 4, 0);
        due36("((((((( tied )))))))", 8, 0);
        due36("not not not not not not not tied", 8, 0);
    }

    private static void promise36SentenceFaults() {
        due36("", 0, 1);
        due36("  ", 2, 1);
        due36("or", 0, 1);
        due36("tied tied", 5, 1);
        due36("tied;", 4, 1);
        due36("tied)", 4, 1);
        due36("(tied", 5, 1);
        due36("(tied;", 5, 1);
        due36("()", 1, 1);
        due36("not", 3, 1);
        due36("not and", 4, 1);
        due36("tied or ", 8, 1);
        due36("tied and or", 9, 1);
        due36("cell", 4, 1);
        due36("cell 3", 5, 1);
        due36("cell <", 6, 1);
        due36("cell < tied", 7, 1);
        due36("cell < 1000", 7, 1);
        due36("cell << 1", 6, 1);
        due36("cell ; 1", 5, 1);
        due36("tied < 1", 5, 1);
        due36("7", 0, 1);
        due36("otto", 0, 1);
        due36("force = 1", 0, 1);
        due36("hour = 1", 0, 1);
        due36("tied or .", 8, 1);
    }

    private static void promise36SentenceOfMany() {
        String twenty = "tied" + " or lost".repeat(19);
        due36(twenty, 20, 0);
        due36("tied" + " and lost".repeat(19), 20, 0);
        due36(twenty + " or", 159, 1);
        due36(twenty + " or lost", 160, 4);
        due36(twenty + " or ( oops", 160, 4);
        due36(twenty + " and 7", 161, 1);
        due36("not " + twenty.substring(0, twenty.length() - 8), 20, 0);
        due36("not " + twenty, twenty.length(), 4);
        due36("(" + twenty.substring(0, twenty.length() - 8) + ") or tied", twenty.length() - 8 + 6, 4);
        due36("(((((((( tied ))))))))", 9, 4);
        due36("not not not not not not not not tied", 32, 4);
        due36("not ( not ( not ( not ( not tied", 24, 4);
        due36("(((((((( )", 9, 1);
        due36("(((((((not tied)))))))", 11, 4);
        due36("((((((( tied or lost and tied ))))))) or tied", 11, 0);
        due36("(((((((tied or (lost))))))))", 16, 4);
    }

    private static void promise36SentenceTooLong() {
        due36(Checks.padded("tied", 200), 1, 0);
        due36(Checks.padded("tied", 201), 200, 1);
        due36(Checks.padded("", 196) + "tied", 1, 0);
        due36(Checks.padded("", 197) + "tied", 200, 1);
        due36(Checks.padded("", 197) + "otto", 197, 1);
        due36(Checks.padded("", 200) + "tied", 200, 1);
    }

    private static void due36(String text, int answer, int kind) {
        BreathingHill x = Checks.hill(LAND);
        Checks.sentence(x, "number > 1");
        int want = kind == 0 ? answer : -1 - answer;
        Checks.due("36: sentence of '" + text.trim() + "'", Checks.sentence(x, text), want);
        Checks.due("36: fault of '" + text.trim() + "'", x.fault(), kind);
        Checks.due("36: the tape is empty", x.count(7), 0);
        if (kind != 0) {
            Checks.due("36: it stays", x.said(-1), 2);
        }
    }

    private static void promise37Said() {
        BreathingHill x = Checks.hill(LAND);
        Checks.due("37: no sentence", x.said(-1), -1);
        Checks.due("37: no sentence", x.said(0), -1);
        Checks.sentence(x, "cell = 0 or tied");
        Checks.due("37: how many", x.said(-1), 2);
        Checks.due("37: the first", x.said(0), 1);
        Checks.due("37: the next", x.said(1), 3);
        Checks.due("37: none such", x.said(2), -1);
        Checks.due("37: none such", x.said(-2), -1);
        Checks.due("37: none such", x.said(Integer.MAX_VALUE), -1);
        x.tie(0, 1);
        Checks.due("37: it is said of what is so now", x.said(-1), 3);
        Checks.sentence(x, "number > 7");
        Checks.due("37: of none", x.said(-1), 0);
        Checks.due("37: none such", x.said(0), -1);
    }

    private static void said(BreathingHill x, String text, int bits) {
        Checks.sentence(x, text);
        int got = 0;
        for (int k = 0; k < x.said(-1); k++) {
            got |= 1 << x.said(k);
        }
        Checks.due("37: '" + text + "'", got, bits);
    }

    private static void promise37SaidInAllWays() {
        BreathingHill x = Checks.hill(LAND);
        said(x, "tied", 8);
        said(x, "not tied", 7);
        said(x, "weight < 4", 5);
        said(x, "weight = 4", 2);
        said(x, "weight > 4", 8);
        said(x, "colour > 0 and not colour = 7", 5);
        said(x, "number < 2", 3);
        said(x, "cell > 3", 12);
        said(x, "number = 0 or number = 1 and number = 2", 1);
        said(x, "(number = 0 or number = 1) and number = 2", 0);
        said(x, "number = 1 and number = 2 or number = 0", 1);
        said(x, "not number = 0 and number < 2", 2);
        said(x, "not (number = 0 and number < 2)", 14);
        said(x, "not number = 0 or number = 0", 15);
        said(x, "not not not number = 3", 7);
        said(x, "beyond or inside or lost", 0);
        x.hours(1);
        said(x, "inside", 2);
        said(x, "lost", 4);
        said(x, "inside and cell = 1", 2);
        said(x, "lost and cell = 0", 4);
        said(x, "lost and cell < 0", 0);
        x.hours(1);
        said(x, "beyond", 2);
        said(x, "beyond and colour = 1", 2);
        Checks.log(x, "hour 20;", 1);
        int bits = 0;
        int[] home = {0, 0, 1, 0};
        for (int t = 0; t < 4; t++) {
            bits |= x.thing(t, 0) == 1 - home[t] ? 1 << t : 0;
        }
        said(x, "beyond", bits);
    }
}
