/**
 * Promises 1 to 5 and 40, sentence by sentence where a boundary is named: at it, one below, one
 * above; and that all stays where a call is refused.
 */
public final class EdgesOfTextsTest {
    private static final String[] WORDS = {"long", "breath", "force", "fade", "held", "passage", "thing", "tied", "mill",
        "man", "ties", "looses", "walks", "hour", "coughs", "or", "and", "not", "inside", "beyond", "lost", "cell",
        "weight", "colour", "number"};

    public static void main(String[] args) throws IllegalAccessException {
        Checks.run(EdgesOfTextsTest.class);
    }

    /** A LAND without a FAULT: how many LINES, on a hill that has another LAND, nothing of which is left. */
    private static BreathingHill told(String text, int lines) {
        BreathingHill x = Checks.busy();
        Checks.put(x, "long 3 4;breath 2 3 4 5;force 8;fade 2;held 0;");
        x.land();
        Checks.put(x, text);
        Checks.due("land() of '" + text.trim() + "'", x.land(), lines);
        Checks.due("fault() of '" + text.trim() + "'", x.fault(), 0);
        Checks.due("the tape behind it", x.count(7), 0);
        return x;
    }

    private static void refused(String text, int place, int kind) {
        Checks.dueFault(text, x -> x.land(), -1 - place, kind);
    }

    /** A NUMBER in a LINE, where a # stands: from least to most, and nothing beside them. */
    private static void fromTo(String line, int least, int most) {
        int place = line.indexOf('#');
        told(line.replace("#", Integer.toString(least)), lines(line));
        told(line.replace("#", Integer.toString(least + 1)), lines(line));
        told(line.replace("#", Integer.toString(most - 1)), lines(line));
        told(line.replace("#", Integer.toString(most)), lines(line));
        refused(line.replace("#", Integer.toString(most + 1)), place, 2);
        refused(line.replace("#", "999"), place, 2);
        if (least > 0) {
            refused(line.replace("#", Integer.toString(least - 1)), place, 2);
        }
    }

    private static int lines(String text) {
        return (int) text.chars().filter(sign -> sign == ';').count();
    }

    // ---- promise 1 ----

    /** "An empty LAND" */
    private static void promise01EmptyLand() {
        BreathingHill x = new BreathingHill();
        int[] counts = {10, 10, 0, 0, 0, 0, 12};
        for (int what = 0; what < counts.length; what++) {
            Checks.due("count(" + what + ")", x.count(what), counts[what]);
        }
        Checks.dueNoThing(x, 0, 0);
        Checks.due("mill(0, 0)", x.mill(0, 0), -1);
        Checks.due("man(0, 0)", x.man(0, 0), -1);
        Checks.due("passage(0, 0)", x.passage(0, 0), -1);
        for (int what = 0; what < 7; what++) {
            Checks.due("now(" + what + ")", x.now(what), what == 2 ? 1 : 0);
        }
        BreathingHill y = new BreathingHill();
        y.land();
        Checks.dueText("as an empty text tells it", Checks.whole(x, true), Checks.whole(y, true));
    }

    /** "an empty tape" */
    private static void promise01EmptyTape() {
        BreathingHill x = new BreathingHill();
        Checks.due("count(7)", x.count(7), 0);
        Checks.due("end(1)", x.end(1), false);
        Checks.due("end(0)", x.end(0), true);
        Checks.due("feed()", x.feed(1, 2, 3, 4, 5), 20);
    }

    /** What is NONE, 0 or false "ahead of any" */
    private static void promise01AheadOfAny() {
        BreathingHill x = new BreathingHill();
        Checks.due("fault()", x.fault(), 0);
        Checks.due("price(0)", x.price(0), -1);
        Checks.due("price(1)", x.price(1), -1);
        for (int what = 0; what < 4; what++) {
            Checks.due("logged(" + what + ")", x.logged(what), -1);
        }
        Checks.due("said(-1)", x.said(-1), -1);
        Checks.due("undo()", x.undo(), -1);
        Checks.due("restore(0)", x.restore(0), false);
        Checks.due("restore(1)", x.restore(1), false);
    }

    /** "An object is used for at most 512 calls after it has been made": the 511th and the 512th answer as all do */
    private static void promise01For512Calls() {
        BreathingHill x = new BreathingHill();
        for (int k = 1; k <= 510; k++) {
            Checks.due("hours(1)", x.hours(1), 1);
        }
        Checks.due("undo()", x.undo(), 7);
        Checks.due("now(0)", x.now(0), 509);
    }

    // ---- promise 2 ----

    /** "Twenty bytes come behind the tape, of each number the highest first" */
    private static void promise02HighestFirst() {
        BreathingHill x = new BreathingHill();
        // a byte each: valley 1, HOUR 255, 3 HOURS, COLOUR 129
        Checks.due("feed()", x.feed(0x01ff0381, -1, -1, -1, -1), 20);
        x.end(4);
        Checks.due("which()", x.which(), 0);
        BreathingHill y = Checks.hill("breath 5 0 5 0;passage 3 1 1;");
        y.feed(0x01ff0381, 0, 0, 0, 0);
        y.end(4);
        Checks.due("bytes above 127: HOUR 255 and COLOUR 129", y.which(), 1);
        BreathingHill z = new BreathingHill();
        Checks.due("feed()", z.feed(0x666f7263, 0x65203920, 0x3b206661, 0x64652036, 0x203b2020), 20);
        Checks.due("feed() behind it", z.feed(0x68656c64, 0x20312020, 0x2020203b, 0x6c6f6e67, 0x20372038), 40);
        z.feed(0x3b000000, 0, 0, 0, 0);
        z.end(41);
        Checks.due("land()", z.land(), 4);
        Checks.due("count(0)", z.count(0), 7);
        Checks.due("count(1)", z.count(1), 8);
        Checks.due("force(0, 6)", z.force(0, 6), 8);
        Checks.due("air(0, 12)", z.air(0, 12), 0);
    }

    /** "how many it has; NONE, and none come, if it would have more than 940" */
    private static void promise02NoMoreThan940() {
        for (int size = 918; size <= 940; size++) {
            BreathingHill x = new BreathingHill();
            for (int k = 0; k < 47; k++) {
                x.feed(0, 0, 0, 0, 0);
            }
            x.end(size);
            Checks.due("feed() behind " + size, x.feed(0, 0, 0, 0, 0), size <= 920 ? size + 20 : -1);
            Checks.due("bytes then", x.count(7), size <= 920 ? size + 20 : size);
        }
    }

    /** "and none come" */
    private static void promise02RefusedFeedLeavesAll() {
        Checks.dueRefused("feed() behind 921", () -> withTape(921), x -> x.feed(0x74696564, 1, 2, 3, 4), -1);
        Checks.dueRefused("feed() behind 940", () -> withTape(940), x -> x.feed(-1, -1, -1, -1, -1), -1);
    }

    private static BreathingHill withTape(int bytes) {
        BreathingHill x = Checks.busy();
        x.end(0);
        for (int k = 0; k < 47; k++) {
            x.feed(0x74696564, 0x20202020, 0x20202020, 0x20202020, 0x20202020);
        }
        x.end(bytes);
        return x;
    }

    // ---- promise 3 ----

    /** "The tape has its first n bytes alone: true" */
    private static void promise03FirstBytesAlone() {
        BreathingHill x = new BreathingHill();
        Checks.put(x, "force 7;force 8;");
        Checks.due("end(16), as many as it has", x.end(16), true);
        Checks.due("end(8)", x.end(8), true);
        Checks.due("count(7)", x.count(7), 8);
        Checks.due("what was cut off does not come again", x.end(16), false);
        Checks.due("land()", x.land(), 1);
        Checks.due("force(0, 0)", x.force(0, 0), 7);
        Checks.put(x, "held 2 x");
        x.end(7);
        x.feed(0x3b666164, 0x6520313b, 0, 0, 0);
        x.end(15);
        Checks.due("bytes come behind the n-th", x.land(), 2);
        Checks.put(x, "tied");
        Checks.due("end(0)", x.end(0), true);
        Checks.due("none is left", x.count(7), 0);
        Checks.due("end(0) of none", x.end(0), true);
    }

    /** "false, if it has not so many, or n is below 0" */
    private static void promise03NotSoMany() {
        int[] none = {20, 21, Integer.MAX_VALUE, -1, -2, Integer.MIN_VALUE};
        for (int n : none) {
            Checks.dueRefused("end(" + n + ") of 19 bytes", x -> x.end(n) ? 1 : 0, 0);
        }
        for (int n = 17; n <= 19; n++) {
            BreathingHill x = Checks.busy();
            Checks.due("end(" + n + ") of 19 bytes", x.end(n), true);
            Checks.due("count(7)", x.count(7), n);
        }
        BreathingHill full = withTape(940);
        Checks.due("end(941) of 940", full.end(941), false);
        Checks.due("end(940) of 940", full.end(940), true);
        Checks.due("end(939) of 940", full.end(939), true);
        Checks.due("end(940) of 939", full.end(940), false);
    }

    // ---- promise 4: TOKENS ----

    /** "with blanks (32, 10) between them or not" */
    private static void promise04Blanks() {
        told(" \n force\n 4 \n\n;\n", 1);
        told("force 4;fade 3;passage 2 1 0;", 3);
        int[] others = {0, 9, 11, 13, 31, 33, 127, 128, 160, 255};
        for (int sign : others) {
            refused("force" + (char) sign + "4;", 5, 1);
            refused("force 4;" + (char) sign, 8, 1);
        }
    }

    /** "WORDS: small letters, 1 to 7" */
    private static void promise04WordsOf1To7Letters() {
        told("man a 0 0;man abcdef 0 0;man abcdefg 0 0;", 3);
        refused("man abcdefgh 0 0;", 4, 1);
        refused("man abcdefghi 0 0;", 4, 1);
        refused("man  0 0;", 5, 1);
        told("man zzzzzzz 0 0;man aaaaaaa 0 0;man zzzzzz 0 0;", 3);
        refused("man zzzzzzz 0 0;man zzzzzzz 0 0;", 20, 3);
        told("man abcdefg 0 0;man abcdefh 0 0;man bbcdefg 0 0;", 3);
    }

    /** "small letters" */
    private static void promise04SmallLetters() {
        told("man a 0 0;man z 0 0;", 2);
        char[] beside = {'`', '{', 'A', 'Z', '@', '[', '_', '-', (char) ('a' + 128), (char) ('z' + 128)};
        for (char sign : beside) {
            refused("man " + sign + " 0 0;", 4, 1);
            refused("man a" + sign + " 0 0;", 5, 1);
        }
    }

    /** "NUMBERS: 1 to 3 digits" */
    private static void promise04NumbersOf1To3Digits() {
        Checks.due("one", told("force 7;", 1).force(0, 0), 7);
        Checks.due("two", told("force 07;", 1).force(0, 0), 7);
        Checks.due("three", told("force 007;", 1).force(0, 0), 7);
        refused("force 0007;", 6, 1);
        refused("force 00007;", 6, 1);
        refused("held 0000000000;", 5, 1);
        refused("held 4294967296;", 5, 1);
        told("force 9;", 1);
        refused("force /;", 6, 1);
        refused("force 4/;", 7, 1);
        refused("force 4:", 7, 1);
        refused("force -1;", 6, 1);
    }

    /** "A WORD, NUMBER goes on as long as small letters and digits do; what is not as told is no TOKEN" */
    private static void promise04TokensGoOn() {
        refused("force4;", 0, 1);
        refused("force 4fade 3;", 6, 1);
        refused("man a1 0 0;", 4, 1);
        refused("man 1a 0 0;", 4, 1);
        refused("manx 0 0;", 0, 1);
        refused("thing a 0 0 1 0tied;", 14, 1);
        told("thing a 0 0 1 0 tied;man b 0 0;", 2);
    }

    /** "; < = > ( )" are TOKENS, signs beside them none; neither comes in a LAND but ; */
    private static void promise04Signs() {
        told("force 4;", 1);
        char[] signs = {':', '<', '=', '>', '?', '\'', '(', ')', '*', '.', ','};
        for (char sign : signs) {
            refused("force 4" + sign, 7, 1);
            refused("force 4;" + sign, 8, 1);
        }
    }

    // ---- promise 4: the LAND ----

    /** "a text of at most 900 bytes": 899, 900 and 901 of them, blanks behind the LINE, and ahead of it */
    private static void promise04AtMost900Bytes() {
        int[] fit = {8, 899, 900};
        for (int bytes : fit) {
            told(Checks.padded("force 7;", bytes), 1);
            told(" ".repeat(bytes - 8) + "force 7;", 1);
        }
        int[] tooMany = {901, 902, 940};
        for (int bytes : tooMany) {
            refused(Checks.padded("force 7;", bytes), 900, 1);
            refused(" ".repeat(bytes - 8) + "force 7;", 900, 1);
            refused(" ".repeat(bytes), 900, 1);
        }
        told(" ".repeat(900), 0);
    }

    /** "TOKENS that begin ahead of it are read whole" */
    private static void promise04TokensAcross900() {
        refused(" ".repeat(893) + "force 4;", 900, 1);
        refused(" ".repeat(893) + "force 0;", 899, 2);
        refused(" ".repeat(892) + "force 10 ;", 898, 2);
        refused(" ".repeat(893) + "force 10;", 899, 2);
        refused(" ".repeat(894) + "force 10;", 900, 1);
        refused(" ".repeat(899) + "force 4;", 900, 1);
        refused(" ".repeat(899) + "forces 4;", 899, 1);
        refused(" ".repeat(899) + "abcdefghi", 899, 1);
        refused(" ".repeat(899) + "1000", 899, 1);
        refused(" ".repeat(899) + "?", 899, 1);
        refused(" ".repeat(899) + "?;", 899, 1);
        refused(" ".repeat(900) + "?", 900, 1);
        refused("force 4;" + " ".repeat(891) + "force 4;", 899, 3);
        refused("force 4;" + " ".repeat(892) + "force 4;", 900, 1);
    }

    /** "no FAULT is ahead" of the most bytes */
    private static void promise04FaultAheadOf900() {
        refused(Checks.padded("force 0;", 901), 6, 2);
        refused(Checks.padded("force 4;fade", 940), 900, 1);
        refused(Checks.padded("force 4;oops", 940), 8, 1);
        // what came last can't come once more in the stead of what is too many
        refused(Checks.padded("thing a 0 0 9", 901), 900, 1);
        refused(Checks.padded("long 5 5", 901), 900, 1);
        refused(Checks.padded("long 5", 901), 900, 1);
    }

    /** "{ LINE ; }" */
    private static void promise04LinesFromNone() {
        told("", 0);
        told("\n", 0);
        told("force 4;", 1);
        told("force 4;fade 4;", 2);
        refused(";", 0, 1);
        refused("force 4;;", 8, 1);
        refused("force 4", 7, 1);
        refused("force 4 fade 4;", 8, 1);
    }

    /** "'long' N M (1 to 20 each" */
    private static void promise04LongFrom1To20() {
        fromTo("long # 5;", 1, 20);
        fromTo("long 5 #;", 1, 20);
        BreathingHill x = told("long 1 20;", 1);
        Checks.due("count(0)", x.count(0), 1);
        Checks.due("count(1)", x.count(1), 20);
    }

    /** "once, ahead of all things, mills, men" */
    private static void promise04LongOnceAndAhead() {
        refused("long 5 5;long 5 5;", 9, 3);
        refused("thing a 0 0 1 0;long 5 5;", 16, 3);
        refused("mill a 0 0;long 5 5;", 11, 3);
        refused("man a 0 0;long 5 5;", 10, 3);
        refused("long 5 5;man a 0 0;long 5 5;", 19, 3);
        told("breath 1 1 1 1;force 1;fade 1;held 1;passage 2 1 0;long 5 5;man a 0 4;", 7);
    }

    /** "10 10 without" */
    private static void promise04LongWithout() {
        BreathingHill x = told("thing a 0 9 1 0;thing b 1 9 1 0;", 2);
        Checks.due("count(0)", x.count(0), 10);
        Checks.due("count(1)", x.count(1), 10);
        refused("thing a 0 10 1 0;", 10, 2);
        refused("thing a 1 10 1 0;", 10, 2);
    }

    /** "'breath' IN STILL OUT STILL (0 to 12 each, IN and OUT 1 at least" */
    private static void promise04BreathFrom0To12() {
        fromTo("breath # 1 1 1;", 1, 12);
        fromTo("breath 1 # 1 1;", 0, 12);
        fromTo("breath 1 1 # 1;", 1, 12);
        fromTo("breath 1 1 1 #;", 0, 12);
        Checks.due("the shortest", told("breath 1 0 1 0;", 1).count(6), 2);
        Checks.due("the longest", told("breath 12 12 12 12;", 1).count(6), 48);
    }

    /** "once; 5 1 5 1 without" */
    private static void promise04BreathOnceOrWithout() {
        refused("breath 1 1 1 1;breath 1 1 1 1;", 15, 3);
        BreathingHill x = told("", 0);
        int[] air = {1, 1, 1, 1, 1, 0, 2, 2, 2, 2, 2, 0, 1};
        for (int hour = 0; hour < air.length; hour++) {
            Checks.due("air(0, " + hour + ")", x.air(0, hour), air[hour]);
        }
    }

    /** "'force' N (1 to 9; once; 4 without)" */
    private static void promise04ForceFrom1To9() {
        fromTo("force #;", 1, 9);
        refused("force 4;force 4;", 8, 3);
        Checks.due("without", told("", 0).force(0, 0), 4);
        Checks.due("1", told("force 1;", 1).force(0, 0), 1);
        Checks.due("9", told("force 9;", 1).force(0, 0), 9);
    }

    /** "'fade' N (1 to 20; once; 20 without)" */
    private static void promise04FadeFrom1To20() {
        fromTo("fade #;", 1, 20);
        refused("fade 4;fade 4;", 7, 3);
        Checks.due("without: cell 19 has all of it", told("long 20 20;", 1).force(0, 19), 4);
        Checks.due("20", told("long 20 20;fade 20;", 2).force(0, 19), 4);
        Checks.due("19", told("long 20 20;fade 19;", 2).force(0, 19), 3);
        Checks.due("1", told("fade 1;", 1).force(0, 1), 3);
    }

    /** "'held' N (0 to 99: the BREATH that it holds; once)" */
    private static void promise04HeldFrom0To99() {
        fromTo("held #;", 0, 99);
        refused("held 4;held 4;", 7, 3);
        refused("held 4;held 5;", 7, 3);
        Checks.due("0 is held", told("held 0;", 1).air(0, 0), 0);
        Checks.due("99 is held", told("breath 1 0 1 0;held 99;", 2).air(0, 198), 0);
        BreathingHill x = told("breath 1 0 1 0;", 1);
        for (int breath = 0; breath < 101; breath++) {
            Checks.due("without: none is held", x.air(0, 2 * breath), 1);
        }
    }

    /** "'passage' LENGTH WIDE ALTER (2 to 9; 1 to 9; 0 to 7)" */
    private static void promise04PassageNumbers() {
        fromTo("passage # 1 0;", 2, 9);
        fromTo("passage 2 # 0;", 1, 9);
        fromTo("passage 2 1 #;", 0, 7);
        BreathingHill x = told("passage 2 1 0;passage 9 9 7;", 2);
        int[][] want = {{2, 1, 0, 0}, {9, 9, 7, 0}};
        for (int p = 0; p < 2; p++) {
            for (int what = 0; what < 4; what++) {
                Checks.due("passage(" + p + ", " + what + ")", x.passage(p, what), want[p][what]);
            }
        }
    }

    /** "VALLEY 0 or 1" */
    private static void promise04ValleyIs0Or1() {
        fromTo("thing a # 0 1 0;", 0, 1);
        fromTo("mill a # 0;", 0, 1);
        fromTo("man a # 0;", 0, 1);
    }

    /** "CELL below its length" */
    private static void promise04CellBelowItsLength() {
        int[] lengths = {1, 2, 19, 20};
        for (int zero : lengths) {
            for (int one : lengths) {
                cellsOf("long " + zero + " " + one + ";", zero, one);
            }
        }
        cellsOf("", 10, 10);
    }

    private static void cellsOf(String head, int... lengths) {
        int lines = head.isEmpty() ? 1 : 2;
        for (int valley = 0; valley < 2; valley++) {
            String cell = " " + valley + " ";
            told(head + "thing a" + cell + "0 1 0;", lines);
            told(head + "thing a" + cell + (lengths[valley] - 1) + " 1 0;", lines);
            told(head + "mill a" + cell + (lengths[valley] - 1) + ";", lines);
            told(head + "man a" + cell + (lengths[valley] - 1) + ";", lines);
            refused(head + "thing a" + cell + lengths[valley] + " 1 0;", head.length() + 10, 2);
            refused(head + "mill a" + cell + lengths[valley] + ";", head.length() + 9, 2);
            refused(head + "man a" + cell + lengths[valley] + ";", head.length() + 8, 2);
        }
    }

    /** WEIGHT and COLOUR: "1 to 9; 0 to 7" */
    private static void promise04WeightAndColour() {
        fromTo("thing a 0 0 # 0;", 1, 9);
        fromTo("thing a 0 0 1 #;", 0, 7);
        BreathingHill x = told("thing a 0 0 1 0;thing b 0 0 9 7;", 2);
        Checks.due("least weight", x.thing(0, 6), 1);
        Checks.due("least colour", x.thing(0, 4), 0);
        Checks.due("most weight", x.thing(1, 6), 9);
        Checks.due("most colour", x.thing(1, 4), 7);
    }

    /** "[ 'tied' ]": it may stand there or not, for things alone */
    private static void promise04TiedOrNot() {
        BreathingHill x = told("thing a 0 0 1 0;thing b 0 0 1 0 tied;thing c 0 0 1 0;", 3);
        Checks.due("without", x.thing(0, 5), 0);
        Checks.due("with it", x.thing(1, 5), 1);
        Checks.due("without", x.thing(2, 5), 0);
        refused("thing a 0 0 1 0 tied tied;", 21, 1);
        refused("thing a 0 0 1 tied;", 14, 1);
        refused("mill a 0 0 tied;", 11, 1);
        refused("man a 0 0 tied;", 10, 1);
        refused("thing a 0 0 1 0 ties;", 16, 1);
    }

    /** "NAME: a WORD, none of those told here, in a LOG or a SENTENCE" */
    private static void promise04NamesAreNoneOfTheWords() {
        for (String word : WORDS) {
            refused("thing " + word + " 0 0 1 0;", 6, 1);
            refused("mill " + word + " 0 0;", 5, 1);
            refused("man " + word + " 0 0;", 4, 1);
            String beside = word.substring(0, word.length() - 1) + (word.charAt(word.length() - 1) == 'z' ? 'a' : 'z');
            told("man " + beside + " 0 0;", 1);
        }
        told("man in 0 0;man still 0 0;man out 0 0;man name 0 0;", 4);
    }

    /** "told once" */
    private static void promise04NamesToldOnce() {
        String[] named = {"thing a 0 0 1 0;", "mill a 0 0;", "man a 0 0;"};
        for (String first : named) {
            for (String second : named) {
                refused(first + second, first.length() + second.indexOf("a 0"), 3);
                told(first + second.replace("a 0", "b 0"), 2);
                told(first + second.replace("a 0", "aa 0"), 2);
            }
        }
    }

    /** "4 passages, 8 things, 4 mills, 4 men at most, numbered from 0 each" */
    private static void promise04FourPassages() {
        for (int many = 3; many <= 4; many++) {
            BreathingHill x = told("passage 2 1 0;".repeat(many - 1) + "passage 3 4 5;", many);
            Checks.due("count(2)", x.count(2), many);
            Checks.due("the first", x.passage(0, 0), 2);
            Checks.due("the last", x.passage(many - 1, 0), 3);
            Checks.due("none behind it", x.passage(many, 0), -1);
        }
        refused("passage 2 1 0;".repeat(5), 56, 4);
        refused("passage 2 1 0;".repeat(6), 56, 4);
    }

    private static void promise04EightThings() {
        for (int many = 7; many <= 8; many++) {
            BreathingHill x = told(many(many, "thing", " 0 0 1 0;"), many);
            Checks.due("count(3)", x.count(3), many);
            Checks.due("the last", x.thing(many - 1, 6), 1);
            Checks.dueNoThing(x, many, 6);
        }
        refused(many(9, "thing", " 0 0 1 0;"), 8 * 16, 4);
        refused(many(8, "thing", " 0 0 1 0;") + "thing", 8 * 16, 4);
    }

    private static void promise04FourMills() {
        for (int many = 3; many <= 4; many++) {
            BreathingHill x = told(many(many, "mill", " 0 7;"), many);
            Checks.due("count(4)", x.count(4), many);
            Checks.due("the last", x.mill(many - 1, 1), 7);
            Checks.due("none behind it", x.mill(many, 1), -1);
        }
        refused(many(5, "mill", " 0 7;"), 4 * 11, 4);
    }

    private static void promise04FourMen() {
        for (int many = 3; many <= 4; many++) {
            BreathingHill x = told(many(many, "man", " 0 7;"), many);
            Checks.due("count(5)", x.count(5), many);
            Checks.due("the last", x.man(many - 1, 1), 7);
            Checks.due("none behind it", x.man(many, 1), -1);
        }
        refused(many(5, "man", " 0 7;"), 4 * 10, 4);
    }

    private static String many(int many, String sort, String end) {
        StringBuilder text = new StringBuilder();
        for (int k = 0; k < many; k++) {
            text.append(sort).append(' ').append((char) ('a' + k)).append(end);
        }
        return text.toString();
    }

    /** All that a LAND may have at once. */
    private static void promise04FullLand() {
        String text = "long 20 20;breath 12 12 12 12;force 9;fade 20;held 99;" + "passage 9 9 7;".repeat(4)
            + many(8, "thing", "x 1 19 9 7 tied;") + many(4, "mill", "y 1 19;") + many(4, "man", "z 1 19;");
        BreathingHill x = told(text, 25);
        int[] counts = {20, 20, 4, 8, 4, 4, 48, 0};
        for (int what = 0; what < counts.length; what++) {
            Checks.due("count(" + what + ")", x.count(what), counts[what]);
        }
        refused(text + "passage", text.length(), 4);
        refused(text + "thing", text.length(), 4);
        refused(text + "mill", text.length(), 4);
        refused(text + "man", text.length(), 4);
    }

    /** "A new LAND: HOUR 0, no SENTENCE": things, mills and men are as told */
    private static void promise04NewLand() {
        BreathingHill x = Checks.busy();
        x.walk(0, 5);
        x.walk(1, 0);
        x.hours(60);
        x.hours(1);
        Checks.put(x, Checks.LAND);
        Checks.due("land()", x.land(), 14);
        Checks.due("now(0)", x.now(0), 0);
        Checks.due("said(-1)", x.said(-1), -1);
        Checks.due("undo()", x.undo(), -1);
        BreathingHill fresh = Checks.hill(Checks.LAND);
        for (int t = 0; t < 4; t++) {
            for (int what = 0; what < 8; what++) {
                Checks.due("thing(" + t + ", " + what + ")", x.thing(t, what), fresh.thing(t, what));
            }
        }
        for (int m = 0; m < 2; m++) {
            for (int what = 0; what < 3; what++) {
                Checks.due("mill(" + m + ", " + what + ")", x.mill(m, what), fresh.mill(m, what));
                Checks.due("man(" + m + ", " + what + ")", x.man(m, what), fresh.man(m, what));
            }
        }
        Checks.due("the image stays", x.restore(0), true);
        Checks.due("its hour", x.now(0), 1);
        Checks.due("its sentence", x.said(-1), 3);
    }

    // ---- promise 5 ----

    /** "0 without one and ahead of any" */
    private static void promise05NoFault() {
        BreathingHill x = new BreathingHill();
        Checks.due("ahead of any", x.fault(), 0);
        x.log(2);
        Checks.due("ahead of any", x.fault(), 0);
        Checks.put(x, "?");
        x.land();
        Checks.due("with one", x.fault(), 1);
        x.land();
        Checks.due("a land() without one", x.fault(), 0);
        x.sentence();
        Checks.due("a sentence() with one", x.fault(), 1);
        x.log(0);
        Checks.due("a log() without one", x.fault(), 0);
        Checks.log(x, "a", 1);
        Checks.due("a log() with one", x.fault(), 3);
        Checks.sentence(x, "tied");
        Checks.due("a sentence() without one", x.fault(), 0);
    }

    /** "a log() of -1000 leaves it" */
    private static void promise05LogOf1000LeavesIt() {
        int[] others = {-1, 2, Integer.MIN_VALUE, Integer.MAX_VALUE};
        for (int lives : others) {
            BreathingHill x = Checks.busy();
            Checks.due("the fault ahead of it", x.fault(), 2);
            Checks.due("log(" + lives + ")", x.log(lives), -1000);
            Checks.due("the fault behind it", x.fault(), 2);
        }
    }

    /** "of the latest land(), log() or sentence()": no other call changes it */
    private static void promise05OtherCallsLeaveIt() {
        BreathingHill x = Checks.busy();
        Checks.due("which()", x.which(), -1);
        x.end(-1);
        x.hours(1);
        x.undo();
        x.restore(0);
        x.image(7);
        Checks.due("fault()", x.fault(), 2);
    }

    /** "FAULTS, the first along the text" */
    private static void promise05FirstAlongTheText() {
        refused("force 0;fade 0;", 6, 2);
        refused("force 4;force 0;?", 8, 3);
        refused("? force 0", 0, 1);
        refused("man a 0 10;man a 0 0;", 8, 2);
        refused("man a 2 10;", 6, 2);
        refused("man a 0 0;man a 9 9", 14, 3);
        refused("passage 2 1 0;".repeat(4) + "force 0;passage 2 1 0;", 62, 2);
    }

    /** "of one TOKEN the least" */
    private static void promise05OfOneTokenTheLeast() {
        // a word that can't be a NAME, where a NAME told twice would be at FAULT too
        refused("man a 0 0;man long 0 0;", 14, 1);
        // four digits are no TOKEN, whatever the NUMBER would be
        refused("force 0000;", 6, 1);
        // a fifth passage is at FAULT ahead of its NUMBERS
        refused("passage 2 1 0;".repeat(4) + "passage 1 1 0;", 56, 4);
        // a fifth man whose NAME is told
        refused(many(4, "man", " 0 0;") + "man a 0 0;", 40, 4);
    }

    /** "1 no TOKEN, or one that can't come (at it" */
    private static void promise05CannotCome() {
        refused("  force force", 8, 1);
        refused("force 4 4;", 8, 1);
        refused("4;", 0, 1);
        refused("ties;", 0, 1);
        refused("anna;", 0, 1);
        refused("man 4 0 0;", 4, 1);
        refused("man a b 0;", 6, 1);
        refused("man a 0;", 7, 1);
    }

    /** "the end: how many bytes there are" */
    private static void promise05TheEnd() {
        refused("force", 5, 1);
        refused("force ", 6, 1);
        refused("force \n\n", 8, 1);
        refused("force 4", 7, 1);
        refused("force 4 ", 8, 1);
        refused(Checks.padded("force 4", 899), 899, 1);
        refused(Checks.padded("force 4", 900), 900, 1);
    }

    // ---- promise 40 ----

    /** "NONE for another what" */
    private static void promise40NoneForAnotherWhat() {
        int[] others = {-1, 8, 9, Integer.MIN_VALUE, Integer.MAX_VALUE};
        for (int what : others) {
            Checks.dueRefused("count(" + what + ")", x -> x.count(what), -1);
        }
        BreathingHill x = Checks.busy();
        int[] counts = {6, 5, 2, 4, 2, 2, 8, 19};
        for (int what = 0; what < counts.length; what++) {
            Checks.due("count(" + what + ")", x.count(what), counts[what]);
        }
    }
}
