/**
 * Promises 34 to 37, sentence by sentence where a boundary is named: at it, one below, one above;
 * and that all stays where a call is refused.
 */
public final class EdgesOfSayingTest {
    private static final int LEAST = Integer.MIN_VALUE;
    private static final int MOST = Integer.MAX_VALUE;

    public static void main(String[] args) throws IllegalAccessException {
        Checks.run(EdgesOfSayingTest.class);
    }

    private static BreathingHill at(String land, int hour) {
        BreathingHill x = Checks.hill(land);
        Checks.passTo(x, hour);
        return x;
    }

    // ---- promise 34 ----

    /** A LOG without a FAULT, none of whose LINES is WRONG: how many LINES. */
    private static BreathingHill logged(String text, int lines) {
        BreathingHill x = Checks.hill(Checks.LAND);
        Checks.due("log(0) of '" + text.trim() + "'", Checks.log(x, text, 0), -1);
        Checks.due("fault() of '" + text.trim() + "'", x.fault(), 0);
        Checks.due("lines of '" + text.trim() + "'", x.logged(1), lines);
        Checks.due("the tape behind it", x.count(7), 0);
        return x;
    }

    /** A LOG with a FAULT: all stays, whether it would be judged or lived. */
    private static void atFault(String text, int place, int kind) {
        Checks.dueFault(text, x -> x.log(0), -2 - place, kind);
        Checks.dueFault(text, x -> x.log(1), -2 - place, kind);
    }

    /** "-1000: another lives (the tape stays)" */
    private static void promise34AnotherLives() {
        int[] others = {-1, 2, 3, LEAST, MOST};
        for (int lives : others) {
            Checks.dueRefused("log(" + lives + ")", x -> x.log(lives), -1000);
        }
        BreathingHill x = Checks.busy();
        Checks.put(x, "hour 5;");
        Checks.due("log(2)", x.log(2), -1000);
        Checks.due("log(0)", x.log(0), -1);
        Checks.due("judged", x.now(0), 1);
        Checks.put(x, "hour 5;");
        Checks.due("log(1)", x.log(1), -1);
        Checks.due("lived", x.now(0), 6);
    }

    /** "it is judged, all staying as it is (lives 0)" */
    private static void promise34Judged() {
        String[] texts = {"", "hour 1;", "pila looses;hour 60;po walks 5;", "kiki ties;", "coughs;otto looses;hour 9;lo ties;"};
        for (String text : texts) {
            BreathingHill x = Checks.busy();
            Checks.log(x, text, 0);
            int undone = x.undo();
            Checks.due("what can be undone behind '" + text + "'", undone, 1);
            BreathingHill y = Checks.busy();
            String so = states(y);
            Checks.log(y, text, 0);
            Checks.dueText("'" + text + "'", states(y), so);
        }
    }

    private static String states(BreathingHill x) {
        StringBuilder text = new StringBuilder();
        for (int what = 0; what < 7; what++) {
            text.append(x.now(what)).append(' ');
        }
        for (int t = 0; t < x.count(3); t++) {
            for (int what = 0; what < 8; what++) {
                text.append(x.thing(t, what)).append(' ');
            }
        }
        for (int m = 0; m < 2; m++) {
            text.append(x.mill(m, 2)).append(' ').append(x.man(m, 1)).append(' ').append(x.man(m, 2)).append(' ');
        }
        return text.toString();
    }

    /** "or lived as far as it is not WRONG (1)": as the calls of the face do it, up to each LINE */
    private static void promise34LivedAsFar() {
        String[] lines = {"otto looses;", "hour 2;", "po walks 3;", "otto ties;", "bo walks 4;"};
        Checks.Call[] calls = {x -> x.tie(0, 0), x -> x.hours(2), x -> x.walk(0, 3), x -> x.tie(0, 1), x -> x.walk(1, 4)};
        StringBuilder text = new StringBuilder();
        BreathingHill y = Checks.busy();
        for (int k = 0; k < lines.length; k++) {
            text.append(lines[k]);
            BreathingHill x = Checks.busy();
            boolean wrong = k == 4;
            Checks.due("log(1) of '" + text + "'", Checks.log(x, text.toString(), 1), wrong ? k : -1);
            int why = calls[k].on(y);
            Checks.due("line " + k, wrong ? why : 0, wrong ? 1 : 0);
            Checks.dueText("lived up to line " + k, states(x), states(y));
            Checks.due("one act", x.undo(), 2);
            Checks.dueText("undone", states(x), states(Checks.busy()));
        }
    }

    /** "the LINE that is WRONG; NONE: none": the first, the last, the fortieth */
    private static void promise34WhichLine() {
        Checks.due("the first", Checks.log(Checks.hill(Checks.LAND), "coughs;", 0), 0);
        Checks.due("the first of two", Checks.log(Checks.hill(Checks.LAND), "coughs;hour 1;", 0), 0);
        Checks.due("the first that is", Checks.log(Checks.hill(Checks.LAND), "hour 1;coughs;coughs;coughs;", 0), 2);
        Checks.due("the fortieth", Checks.log(Checks.hill(Checks.LAND), "hour 1;".repeat(39) + "pila ties;", 0), 39);
        Checks.due("none of forty", Checks.log(Checks.hill(Checks.LAND), "hour 1;".repeat(39) + "pila looses;", 0), -1);
        Checks.due("none of none", Checks.log(Checks.hill(Checks.LAND), "", 0), -1);
    }

    /** "a text of at most 400 bytes": 399, 400, 401 */
    private static void promise34AtMost400Bytes() {
        int[] fit = {7, 399, 400};
        for (int bytes : fit) {
            logged(Checks.padded("hour 1;", bytes), 1);
            logged(" ".repeat(bytes - 7) + "hour 1;", 1);
        }
        int[] tooMany = {401, 402, 900, 940};
        for (int bytes : tooMany) {
            atFault(Checks.padded("hour 1;", bytes), 400, 1);
            atFault(" ".repeat(bytes - 7) + "hour 1;", 400, 1);
        }
        logged(" ".repeat(400), 0);
        atFault(" ".repeat(401), 400, 1);
        logged("otto ties ;otto looses;".repeat(17) + "hour 1;  ", 35);
        atFault("otto ties ;otto looses;".repeat(17) + "hour 1;   ", 400, 1);
    }

    /** "TOKENS that begin ahead of it are read whole", "no FAULT is ahead" */
    private static void promise34TokensAcross400() {
        atFault(" ".repeat(394) + "hour 1;", 400, 1);
        atFault(" ".repeat(394) + "hour 60;", 400, 1);
        atFault(" ".repeat(394) + "hour 61;", 399, 2);
        atFault(" ".repeat(395) + "hour 61;", 400, 1);
        atFault(" ".repeat(399) + "nobody", 399, 3);
        atFault(" ".repeat(400) + "nobody", 400, 1);
        atFault(" ".repeat(399) + "otto ties;", 400, 1);
        atFault(" ".repeat(399) + "abcdefgh", 399, 1);
        atFault(Checks.padded("nobody", 401), 0, 3);
        atFault(Checks.padded("coughs", 401), 400, 1);
        atFault(Checks.padded("hour", 401), 400, 1);
    }

    /** "{ LINE ; }, 40 at most", "a 41st LINE of a LOG (at the LINE's first WORD)" */
    private static void promise34FortyLines() {
        String forty = "hour 1;".repeat(40);
        logged("hour 1;".repeat(39), 39);
        logged(forty, 40);
        logged(forty + " \n", 40);
        atFault(forty + "hour 1;", 280, 4);
        atFault(forty + "  hour", 282, 4);
        atFault(forty + "coughs;", 280, 4);
        atFault(forty + "otto ties;", 280, 4);
        atFault(forty + "po walks 1;", 280, 4);
    }

    /** "of one TOKEN the least": what else the first WORD of a 41st LINE may be */
    private static void promise34LeastOf41stLine() {
        String forty = "hour 1;".repeat(40);
        atFault(forty + "nobody ties;", 280, 3);
        atFault(forty + "la ties;", 280, 3);
        atFault(forty + "ties;", 280, 1);
        atFault(forty + "7;", 280, 1);
        atFault(forty + ";", 280, 1);
        atFault(forty + "abcdefgh;", 280, 1);
    }

    /** "MAN 'walks' CELL (0 to 19)" */
    private static void promise34CellFrom0To19() {
        BreathingHill wide = Checks.hill("long 20 20;man p 0 5;");
        Checks.due("cell 0", Checks.log(wide, "p walks 0;", 0), -1);
        Checks.due("cell 19", Checks.log(wide, "p walks 19;", 0), -1);
        Checks.due("cell 19, three digits", Checks.log(wide, "p walks 019;", 0), -1);
        atFault("po walks 20;", 9, 2);
        atFault("po walks 999;", 9, 2);
        atFault("po walks 0020;", 9, 1);
    }

    /** "'hour' N (1 to 60)" */
    private static void promise34HoursFrom1To60() {
        Checks.due("1", logged("hour 1;", 1).logged(2), 1);
        Checks.due("59", logged("hour 59;", 1).logged(2), 59);
        Checks.due("60", logged("hour 60;", 1).logged(2), 60);
        atFault("hour 0;", 5, 2);
        atFault("hour 61;", 5, 2);
        atFault("hour 999;", 5, 2);
        atFault("hour 0001;", 5, 1);
    }

    /** "3 a NAME .. not told, or of another sort (at it)" */
    private static void promise34NamesNotTold() {
        atFault("nobody ties;", 0, 3);
        atFault("hour 1; nobody", 8, 3);
        atFault("ott ties;", 0, 3);
        atFault("ottoo ties;", 0, 3);
        atFault("la ties;", 0, 3);
        atFault("la walks 1;", 0, 3);
        logged("otto ties;", 1);
    }

    /** "1 no TOKEN, or one that can't come (at it" */
    private static void promise34CannotCome() {
        atFault(";", 0, 1);
        atFault("hour 1;;", 7, 1);
        atFault("otto;", 4, 1);
        atFault("otto hour 1;", 5, 1);
        atFault("otto walks 1;", 5, 1);
        atFault("po ties;", 3, 1);
        atFault("po looses;", 3, 1);
        atFault("po walks otto;", 9, 1);
        atFault("hour otto;", 5, 1);
        atFault("coughs coughs;", 7, 1);
        atFault("Hour 1;", 0, 1);
        atFault("long 1 1;", 0, 1);
        atFault("(", 0, 1);
    }

    /** "the end: how many bytes there are" */
    private static void promise34TheEnd() {
        atFault("otto", 4, 1);
        atFault("otto ", 5, 1);
        atFault("otto ties", 9, 1);
        atFault("po walks", 8, 1);
        atFault("po walks 1", 10, 1);
        atFault("hour", 4, 1);
        atFault("hour 1\n", 7, 1);
        atFault("coughs", 6, 1);
        atFault(Checks.padded("hour 1", 400), 400, 1);
    }

    /** "{ LINE ; }": none at all */
    private static void promise34LinesFromNone() {
        logged("", 0);
        logged(" \n ", 0);
        logged("hour 1;", 1);
        logged("hour 1;hour 1;", 2);
    }

    // ---- promise 35 ----

    private static void why(String land, int hour, String text, int reason, int lines) {
        BreathingHill x = at(land, hour);
        String name = "'" + text + "' at " + hour;
        Checks.due("log(0) of " + name, Checks.log(x, text, 0), reason == 0 ? -1 : lines);
        Checks.due("why " + name, x.logged(0), reason);
        Checks.due("lines of " + name, x.logged(1), lines);
    }

    /** "why it was WRONG (0: it was not; as for tying": 1, 2, 3 */
    private static void promise35AsForTying() {
        why(Checks.LAND, 0, "otto ties;", 0, 1);
        why(Checks.LAND, 1, "lo ties;", 1, 0);
        why(Checks.LAND, 1, "kiki ties;", 2, 0);
        why(Checks.LAND, 0, "pila ties;", 3, 0);
        why(Checks.LAND, 0, "otto ties;otto ties;", 3, 1);
    }

    /** "10 more as for loosing": 11, 12 */
    private static void promise35AsForLoosing() {
        why(Checks.LAND, 0, "pila looses;", 0, 1);
        why(Checks.LAND, 1, "lo looses;", 11, 0);
        why(Checks.LAND, 1, "kiki looses;", 12, 0);
        why(Checks.LAND, 0, "otto looses;", 12, 0);
        why(Checks.LAND, 0, "pila looses;pila looses;", 12, 1);
    }

    /** "20 for walking": 21, 22 */
    private static void promise35AsForWalking() {
        why(Checks.LAND, 0, "po walks 5;", 0, 1);
        why(Checks.LAND, 0, "po walks 0;", 21, 0);
        why(Checks.LAND, 1000, "po walks 0;", 21, 0);
        String land = "long 20 20;breath 12 0 12 0;force 3;man p 0 0;";
        why(land, 996, "p walks 7;", 0, 1);
        why(land, 996, "p walks 8;", 0, 1);
        why(land, 996, "p walks 9;", 22, 0);
        why(land, 995, "p walks 9;", 0, 1);
        why(land, 995, "hour 1;p walks 9;", 22, 1);
        why(land, 1000, "p walks 1;", 22, 0);
    }

    /** "29: there is no such CELL" */
    private static void promise35NoSuchCell() {
        why(Checks.LAND, 0, "po walks 5;", 0, 1);
        why(Checks.LAND, 0, "po walks 6;", 29, 0);
        why(Checks.LAND, 0, "po walks 19;", 29, 0);
        why(Checks.LAND, 0, "bo walks 5;", 29, 0);
        why(Checks.LAND, 0, "bo walks 3;", 0, 1);
        why(Checks.LAND, 1000, "po walks 6;", 29, 0);
        why("long 1 20;man p 0 0;man q 1 0;", 0, "p walks 1;", 29, 0);
        why("long 1 20;man p 0 0;man q 1 0;", 0, "q walks 19;", 0, 1);
    }

    /** "30 for coughing": 31 */
    private static void promise35AsForCoughing() {
        why(Checks.LAND, 0, "coughs;", 31, 0);
        why(Checks.LAND, 1, "coughs;", 0, 1);
        why(Checks.LAND, 1, "coughs;coughs;", 31, 1);
    }

    /** "41 fewer HOURS are left": one fewer, as many, one more */
    private static void promise35FewerHoursLeft() {
        why(Checks.LAND, 950, "hour 49;", 0, 1);
        why(Checks.LAND, 950, "hour 50;", 0, 1);
        why(Checks.LAND, 950, "hour 51;", 41, 0);
        why(Checks.LAND, 999, "hour 1;", 0, 1);
        why(Checks.LAND, 999, "hour 2;", 41, 0);
        why(Checks.LAND, 1000, "hour 1;", 41, 0);
        why(Checks.LAND, 940, "hour 60;hour 1;", 41, 1);
        BreathingHill x = at(Checks.LAND, 950);
        Checks.log(x, "hour 51;", 1);
        Checks.due("none of them went by", x.now(0), 950);
        Checks.due("nor by the log", x.logged(2), 950);
    }

    /** "1 LINES that are not" */
    private static void promise35LinesThatAreNot() {
        why(Checks.LAND, 0, "", 0, 0);
        why(Checks.LAND, 0, "coughs;", 31, 0);
        why(Checks.LAND, 0, "hour 1;coughs;", 0, 2);
        why(Checks.LAND, 0, "hour 1;coughs;coughs;hour 1;hour 1;", 31, 2);
        why(Checks.LAND, 0, "hour 1;".repeat(40), 0, 40);
    }

    /** "2 the HOUR then, 3 things lost then, as bits" */
    private static void promise35HourAndLostThen() {
        int[][] want = {{0, 0, 0}, {1, 1, 4}, {60, 60, 5}};
        for (int[] row : want) {
            BreathingHill x = Checks.hill(Checks.LAND);
            Checks.log(x, row[0] == 0 ? "" : "hour " + row[0] + ";", 0);
            Checks.due("the hour", x.logged(2), row[1]);
            BreathingHill y = at(Checks.LAND, row[0]);
            Checks.due("lost ones", x.logged(3), y.now(4));
            Checks.due("judged alone", x.now(4), 0);
        }
        BreathingHill z = Checks.hill("long 1 1;thing a 1 0 1 0;thing b 1 0 1 0;thing c 1 0 1 0;thing d 1 0 1 0;"
            + "thing e 1 0 1 0;thing f 1 0 1 0;thing g 1 0 1 0;thing h 1 0 1 0;");
        Checks.log(z, "hour 1;", 0);
        Checks.due("all eight", z.logged(3), 255);
        Checks.log(z, "hour 60;", 1);
        Checks.passTo(z, 1000);
        Checks.log(z, "", 0);
        Checks.due("hour 1000", z.logged(2), 1000);
    }

    /** "NONE: another what, or ahead of any" */
    private static void promise35NoneForAnotherWhat() {
        int[] others = {-1, 4, 5, LEAST, MOST};
        for (int what : others) {
            Checks.dueRefused("logged(" + what + ")", x -> x.logged(what), -1);
            Checks.due("ahead of any", new BreathingHill().logged(what), -1);
        }
        BreathingHill x = new BreathingHill();
        for (int what = 0; what < 4; what++) {
            Checks.due("ahead of any", x.logged(what), -1);
        }
        x.log(0);
        for (int what = 0; what < 4; what++) {
            Checks.due("behind an empty one", x.logged(what), 0);
        }
    }

    /** "Of the latest log() that had no FAULT (and was not -1000)" */
    private static void promise35LatestWithoutFault() {
        BreathingHill x = Checks.hill(Checks.LAND);
        Checks.log(x, "nobody", 0);
        Checks.due("a fault alone", x.logged(0), -1);
        Checks.log(x, "", 2);
        Checks.due("-1000 alone", x.logged(0), -1);
        Checks.log(x, "hour 7;coughs;", 0);
        Checks.due("it is told", x.logged(1), 1);
        Checks.log(x, "hour 9;nobody", 1);
        Checks.due("a fault leaves it", x.logged(2), 7);
        Checks.log(x, "hour 9;", 3);
        Checks.due("-1000 leaves it", x.logged(2), 7);
        Checks.log(x, "hour 9;", 1);
        Checks.due("the latest", x.logged(2), 9);
        x.undo();
        Checks.due("undone, told still", x.logged(2), 9);
    }

    // ---- promise 36 ----

    private static BreathingHill said(String text, int ones) {
        BreathingHill x = Checks.busy();
        Checks.due("sentence() of '" + text.trim() + "'", Checks.sentence(x, text), ones);
        Checks.due("fault() of '" + text.trim() + "'", x.fault(), 0);
        Checks.due("the tape behind it", x.count(7), 0);
        return x;
    }

    private static void unsaid(String text, int place, int kind) {
        Checks.dueFault(text, x -> x.sentence(), -1 - place, kind);
    }

    /** "a text of at most 200 bytes": 199, 200, 201 */
    private static void promise36AtMost200Bytes() {
        int[] fit = {4, 199, 200};
        for (int bytes : fit) {
            said(Checks.padded("tied", bytes), 1);
            said(" ".repeat(bytes - 4) + "tied", 1);
        }
        int[] tooMany = {201, 202, 400, 900, 940};
        for (int bytes : tooMany) {
            unsaid(Checks.padded("tied", bytes), 200, 1);
            unsaid(" ".repeat(bytes - 4) + "tied", 200, 1);
        }
    }

    /** "TOKENS that begin ahead of it are read whole", "no FAULT is ahead" */
    private static void promise36TokensAcross200() {
        unsaid(" ".repeat(199) + "tied", 200, 1);
        unsaid(" ".repeat(199) + "tieds", 199, 1);
        unsaid(" ".repeat(200) + "tieds", 200, 1);
        unsaid(Checks.padded("tied tied", 201), 5, 1);
        // what came last can't come once more in the stead of what is too many
        unsaid(Checks.padded("not", 201), 200, 1);
        unsaid(Checks.padded("(", 201), 200, 1);
        unsaid("tied" + " or lost".repeat(19) + " or" + " ".repeat(37) + "lost", 196, 4);
        unsaid("tied" + " or lost".repeat(19) + " or" + " ".repeat(40) + "lost", 199, 4);
        unsaid("tied" + " or lost".repeat(19) + " or" + " ".repeat(41) + "lost", 200, 1);
    }

    /** "20 ONES", "a 21st ONE (at its first TOKEN)": 19, 20, 21 */
    private static void promise36TwentyOnes() {
        said("tied" + " or lost".repeat(18), 19);
        said("tied" + " or lost".repeat(19), 20);
        said("tied" + " and lost".repeat(19), 20);
        unsaid("tied" + " or lost".repeat(20), 160, 4);
        unsaid("tied" + " and lost".repeat(20), 180, 4);
        unsaid("tied" + " or lost".repeat(19) + " or cell < 1", 160, 4);
        unsaid("tied" + " or lost".repeat(19) + " or not lost", 160, 4);
        unsaid("tied" + " or lost".repeat(19) + " or ( lost )", 160, 4);
    }

    /** "how many ONES (each not, bracket and other one)" */
    private static void promise36EachNotAndBracket() {
        said("tied", 1);
        said("not tied", 2);
        said("(tied)", 2);
        said("not (tied)", 3);
        said("cell < 1 and (inside or not lost)", 5);
        said("not tied" + " or not lost".repeat(9), 20);
        unsaid("not tied" + " or not lost".repeat(9) + " or tied", 8 + 108 + 4, 4);
        said("(tied)" + " or (lost)".repeat(9), 20);
        unsaid("(tied)" + " or (lost)".repeat(8) + " or ((lost))", 6 + 80 + 6, 4);
        unsaid("not tied" + " or not lost".repeat(8) + " or not not tied", 8 + 96 + 12, 4);
    }

    /** "8 within one another", "a ninth within (at its first TOKEN)": 7, 8, 9 */
    private static void promise36EightWithin() {
        for (int deep = 1; deep <= 8; deep++) {
            said("not ".repeat(deep - 1) + "tied", deep);
            said("(".repeat(deep - 1) + "tied" + ")".repeat(deep - 1), deep);
        }
        unsaid("not ".repeat(8) + "tied", 32, 4);
        unsaid("not ".repeat(9) + "tied", 32, 4);
        unsaid("(".repeat(8) + "tied" + ")".repeat(8), 8, 4);
        unsaid("(".repeat(9) + "tied" + ")".repeat(9), 8, 4);
        unsaid("not (not (not (not (tied", 20, 4);
        said("not (not (not (not tied)))", 8);
        said("((((((( tied and lost or tied )))))))", 10);
        unsaid("((((((( tied and not lost )))))))", 21, 4);
        said("((((((tied))))))and((((((tied))))))", 14);
    }

    /** "of one TOKEN the least": what can't come in a 21st ONE's or a ninth's stead */
    private static void promise36LeastOfOneToken() {
        unsaid("tied" + " or lost".repeat(19) + " or or", 160, 1);
        unsaid("tied" + " or lost".repeat(19) + " or 7", 160, 1);
        unsaid("tied" + " or lost".repeat(19) + " or otto", 160, 1);
        unsaid("tied" + " or lost".repeat(19) + " or", 159, 1);
        unsaid("(".repeat(8) + ")", 8, 1);
        unsaid("(".repeat(8), 8, 1);
    }

    /** "SIGN NUMBER": each sign, NUMBERS from 0 to 999 */
    private static void promise36SignsAndNumbers() {
        String[] whats = {"cell", "weight", "colour", "number"};
        String[] signs = {"<", "=", ">"};
        for (String what : whats) {
            for (String sign : signs) {
                said(what + sign + "0", 1);
                said(what + sign + "999", 1);
                said(what + sign + "000", 1);
                unsaid(what + sign + "1000", what.length() + 1, 1);
                unsaid(what + sign, what.length() + 1, 1);
                unsaid(what + sign + "tied", what.length() + 1, 1);
            }
            unsaid(what, what.length(), 1);
            unsaid(what + " 1", what.length() + 1, 1);
            unsaid(what + ";1", what.length(), 1);
            unsaid(what + "?1", what.length(), 1);
            unsaid(what + "<=1", what.length() + 1, 1);
        }
    }

    /** "COND: ALL { 'or' ALL }. ALL: ONE { 'and' ONE }": none of them may be empty */
    private static void promise36NoEmptyOnes() {
        unsaid("", 0, 1);
        unsaid(" \n", 2, 1);
        unsaid("()", 1, 1);
        unsaid("not", 3, 1);
        unsaid("or tied", 0, 1);
        unsaid("and tied", 0, 1);
        unsaid("tied or", 7, 1);
        unsaid("tied and", 8, 1);
        unsaid("tied or or tied", 8, 1);
        unsaid("tied and or tied", 9, 1);
        unsaid("tied lost", 5, 1);
        unsaid("tied;", 4, 1);
        unsaid("tied)", 4, 1);
        unsaid("(tied", 5, 1);
        unsaid("(tied))", 6, 1);
        unsaid("otto", 0, 1);
        unsaid("force", 0, 1);
        unsaid("hour", 0, 1);
    }

    // ---- promise 37 ----

    private static void dueSet(BreathingHill x, String text, int bits) {
        Checks.sentence(x, text);
        int many = x.said(-1);
        Checks.due("how many: '" + text + "'", many, Integer.bitCount(bits));
        int got = 0;
        int last = -1;
        for (int k = 0; k < many; k++) {
            int t = x.said(k);
            Checks.due("one behind another: '" + text + "'", t > last, true);
            got |= 1 << t;
            last = t;
        }
        Checks.due("'" + text + "'", got, bits);
        Checks.due("none behind the last: '" + text + "'", x.said(many), -1);
    }

    /** "how many (k NONE), or the k-th. NONE: .. none such" */
    private static void promise37NoneSuch() {
        BreathingHill x = Checks.busy();
        Checks.due("how many", x.said(-1), 3);
        Checks.due("the first", x.said(0), 0);
        Checks.due("the next", x.said(1), 1);
        Checks.due("the last", x.said(2), 3);
        int[] none = {3, 4, 8, -2, -3, LEAST, MOST};
        for (int k : none) {
            Checks.dueRefused("said(" + k + ")", y -> y.said(k), -1);
        }
    }

    /** "NONE: there is no SENTENCE" */
    private static void promise37NoSentence() {
        BreathingHill x = Checks.hill(Checks.LAND);
        int[] all = {-1, 0, 1, 3, 4, -2};
        for (int k : all) {
            Checks.due("said(" + k + ")", x.said(k), -1);
        }
        Checks.sentence(x, "oops");
        Checks.due("a fault tells none", x.said(-1), -1);
        Checks.sentence(x, "number > 7");
        Checks.due("of no thing", x.said(-1), 0);
        Checks.due("of no thing", x.said(0), -1);
    }

    /** Of no things, of one, of eight. */
    private static void promise37OfHowMany() {
        BreathingHill none = new BreathingHill();
        Checks.sentence(none, "not tied");
        Checks.due("of an empty land", none.said(-1), 0);
        Checks.due("of an empty land", none.said(0), -1);
        BreathingHill one = Checks.hill("thing a 0 0 1 0;");
        dueSet(one, "not tied", 1);
        dueSet(one, "tied", 0);
        BreathingHill eight = Checks.hill("thing a 0 0 1 0;thing b 0 0 1 0;thing c 0 0 1 0;thing d 0 0 1 0;thing e 0 0 1 0;"
            + "thing f 0 0 1 0;thing g 0 0 1 0;thing h 0 0 1 0 tied;");
        dueSet(eight, "not lost", 255);
        dueSet(eight, "tied", 128);
        dueSet(eight, "number > 6", 128);
        dueSet(eight, "number > 7", 0);
        dueSet(eight, "number < 1", 1);
        dueSet(eight, "number < 0", 0);
    }

    /** "SIGN: < = >": below, at and above a value */
    private static void promise37Signs() {
        BreathingHill x = Checks.hill("thing a 0 3 3 3;thing b 0 4 4 4;thing c 0 5 5 5;");
        String[] whats = {"cell", "weight", "colour"};
        for (String what : whats) {
            dueSet(x, what + " < 4", 1);
            dueSet(x, what + " = 4", 2);
            dueSet(x, what + " > 4", 4);
            dueSet(x, what + " < 3", 0);
            dueSet(x, what + " > 5", 0);
            dueSet(x, what + " < 6", 7);
            dueSet(x, what + " > 2", 7);
            dueSet(x, what + " = 999", 0);
        }
        dueSet(x, "number < 1", 1);
        dueSet(x, "number = 1", 2);
        dueSet(x, "number > 1", 4);
    }

    /** "(the cell; inside: how far it is in; lost: 0)" */
    private static void promise37CellInsideAndLost() {
        BreathingHill x = Checks.hill("long 9 9;breath 5 0 5 0;passage 9 9 0;thing a 0 0 1 0;thing b 1 8 1 0;thing c 0 5 9 0;");
        dueSet(x, "cell = 0", 1);
        x.hours(1);
        dueSet(x, "inside and cell = 1", 1);
        dueSet(x, "cell = 0", 2);
        dueSet(x, "lost and cell = 0", 2);
        dueSet(x, "lost and (cell < 0 or cell > 0)", 0);
        x.hours(3);
        dueSet(x, "cell = 4", 1);
        dueSet(x, "cell = 5", 4);
    }

    /** "'beyond' (in the valley in which it was not told)", "'inside'", "'lost'", "'tied'" */
    private static void promise37WhereItIs() {
        BreathingHill x = Checks.hill("breath 2 0 3 0;long 9 9;force 4;passage 2 9 0;thing a 0 0 4 0;thing b 1 0 9 0 tied;thing c 1 8 1 0;");
        String[] words = {"beyond", "inside", "lost", "tied"};
        int[][] sets = {{0, 0, 0, 2}, {0, 1, 4, 2}, {1, 0, 4, 2}, {0, 1, 4, 2}, {0, 0, 4, 2}};
        for (int[] set : sets) {
            for (int k = 0; k < words.length; k++) {
                dueSet(x, words[k], set[k]);
                dueSet(x, "not " + words[k], 7 & ~set[k]);
            }
            x.hours(1);
        }
        // coughed out, what was told in valley 1 is beyond
        BreathingHill y = Checks.hill("breath 1 0 3 0;passage 9 9 0;thing a 1 0 4 0 tied;thing b 0 0 4 0 tied;");
        y.hours(1);
        y.tie(0, 0);
        y.hours(1);
        dueSet(y, "beyond", 0);
        dueSet(y, "inside", 1);
        y.cough();
        dueSet(y, "beyond", 1);
    }

    /** 'and' binds closer than 'or', 'not' closer than both; brackets bind closest. */
    private static void promise37HowItBinds() {
        BreathingHill x = Checks.hill("thing a 0 0 1 0;thing b 0 0 2 0;thing c 0 0 3 0;thing d 0 0 4 0;");
        dueSet(x, "number = 0 or number = 1 and number = 2", 1);
        dueSet(x, "(number = 0 or number = 1) and number = 2", 0);
        dueSet(x, "number = 2 and number = 1 or number = 0", 1);
        dueSet(x, "number = 2 and (number = 1 or number = 0)", 0);
        dueSet(x, "not number = 0 and number < 2", 2);
        dueSet(x, "not (number = 0 and number < 2)", 14);
        dueSet(x, "not number = 0 or number = 0", 15);
        dueSet(x, "not not number = 0", 1);
        dueSet(x, "number = 0 or number = 1 or number = 2 or number = 3", 15);
        dueSet(x, "number < 3 and number < 2 and number < 1", 1);
    }

    /** The largest SENTENCE is said of things as the least one is. */
    private static void promise37LargestSentence() {
        BreathingHill x = Checks.hill("thing a 0 0 1 0;thing b 0 0 2 0;thing c 0 0 3 0;");
        dueSet(x, "number=0" + " or number=0".repeat(15), 1);
        dueSet(x, "tied" + " or lost".repeat(17) + " or not tied", 7);
        dueSet(x, "lost" + " or lost and tied".repeat(9), 0);
        dueSet(x, "not not not not not not not number=1", 5);
        dueSet(x, "(((((((number=1)))))))", 2);
    }
}
