/** Promises 1 to 5 and 40: a new object, the tape, a LAND and its FAULTS, counts. */
public final class TextsTest {
    public static void main(String[] args) throws IllegalAccessException {
        Checks.run(TextsTest.class);
    }

    private static void promise01NewObject() {
        BreathingHill x = new BreathingHill();
        int[] counts = {10, 10, 0, 0, 0, 0, 12, 0};
        for (int what = 0; what < counts.length; what++) {
            Checks.due("1: count(" + what + ")", x.count(what), counts[what]);
        }
        Checks.due("1: hour", x.now(0), 0);
        Checks.due("1: force", x.force(0, 9), 4);
        Checks.due("1: said", x.said(-1), -1);
        Checks.due("1: undo", x.undo(), -1);
        Checks.due("1: restore", x.restore(0), false);
        Checks.due("1: fault", x.fault(), 0);
        Checks.due("1: land of an empty tape", x.land(), 0);
    }

    private static void promise02Feed() {
        BreathingHill x = new BreathingHill();
        for (int k = 1; k <= 47; k++) {
            Checks.due("2: feed " + k, x.feed(0, 0, 0, 0, 0), 20 * k);
        }
        Checks.due("2: feed beyond 940", x.feed(0, 0, 0, 0, 0), -1);
        Checks.due("2: none came", x.count(7), 940);
        Checks.due("2: end(921)", x.end(921), true);
        Checks.due("2: feed beyond 940 by 1", x.feed(0, 0, 0, 0, 0), -1);
        Checks.due("2: end(920)", x.end(920), true);
        Checks.due("2: feed to 940", x.feed(0, 0, 0, 0, 0), 940);

        BreathingHill y = new BreathingHill();
        // "force 7 ; fade 2 ; " and a byte behind it: the highest byte of each number comes first
        y.feed(0x666f7263, 0x65203720, 0x3b206661, 0x64652032, 0x203b2021);
        y.end(19);
        Checks.due("2: land()", y.land(), 2);
        Checks.due("2: force(0, 2)", y.force(0, 2), 6);
    }

    private static void promise03End() {
        BreathingHill x = new BreathingHill();
        Checks.due("3: end(0) of nothing", x.end(0), true);
        Checks.due("3: end(1) of nothing", x.end(1), false);
        x.feed(1, 2, 3, 4, 5);
        Checks.due("3: end(-1)", x.end(-1), false);
        Checks.due("3: end(21)", x.end(21), false);
        Checks.due("3: the tape stays", x.count(7), 20);
        Checks.due("3: end(20)", x.end(20), true);
        Checks.due("3: end(7)", x.end(7), true);
        Checks.due("3: seven bytes", x.count(7), 7);
        Checks.due("3: end(8)", x.end(8), false);
    }

    private static void promise04Land() {
        due("", 0, 0);
        due(" \n ", 0, 0);
        due("long 20 1;breath 12 0 12 0;force 9;fade 1;held 99;", 5, 0);
        due("long 1 20;breath 1 12 1 12;force 1;fade 20;held 0;", 5, 0);
        due("held\n007;force 009;", 2, 0);
        due("passage 2 1 0;passage 9 9 7;long 1 1;passage 2 2 2;passage 2 2 2;", 5, 0);
        due("thing a 0 9 9 7 tied;thing b 1 0 1 0;mill c 0 0;man d 1 9;", 4, 0);
        due("thing abcdefg 0 0 1 0;thing in 0 0 1 0;thing still 0 0 1 0;", 3, 0);
        due("long 3 5;thing a 0 2 1 0;thing b 1 4 1 0;", 3, 0);
        due("passage 2 1 0;breath 1 1 1 1;thing a 0 0 1 0;force 2;fade 2;held 2;", 6, 0);
    }

    private static void promise04LandIsNew() {
        BreathingHill x = Checks.hill("long 3 4;passage 2 9 1;thing a 0 0 1 0;mill b 0 0;man c 0 0;");
        x.hours(5);
        Checks.sentence(x, "tied");
        Checks.put(x, "long 5 6;oops;");
        Checks.due("4: land() with a fault", x.land(), -10);
        Checks.due("4: the tape is empty", x.count(7), 0);
        Checks.due("4: it stays", x.count(0), 3);
        Checks.due("4: the hour stays", x.now(0), 5);
        Checks.due("4: the sentence stays", x.said(-1), 0);
        Checks.due("4: what can be undone stays", x.undo(), 0);
        x.hours(5);
        Checks.put(x, "thing z 1 3 2 5;");
        Checks.due("4: land()", x.land(), 1);
        Checks.due("4: the tape is empty then too", x.count(7), 0);
        int[] counts = {10, 10, 0, 1, 0, 0, 12};
        for (int what = 0; what < counts.length; what++) {
            Checks.due("4: count(" + what + ")", x.count(what), counts[what]);
        }
        Checks.due("4: hour 0", x.now(0), 0);
        Checks.due("4: no sentence", x.said(-1), -1);
        Checks.due("4: nothing can be undone", x.undo(), -1);
        Checks.due("4: valley", x.thing(0, 0), 1);
        Checks.due("4: cell", x.thing(0, 1), 3);
    }

    /** What one LAND tells is neither so nor told in the next one. */
    private static void promise04NothingIsLeft() {
        String full = "long 3 4;breath 1 2 3 4;force 9;fade 1;held 0;passage 2 9 1;thing a 0 0 1 0 tied;mill b 0 0;man c 0 0;";
        BreathingHill x = Checks.hill(full);
        Checks.passTo(x, 20);
        x.walk(0, 1);
        x.hours(1);
        x.hours(1);
        Checks.put(x, full);
        Checks.due("4: the same once more", x.land(), 9);
        Checks.due("4: no turns", x.mill(0, 2), 0);
        Checks.due("4: no hours walked", x.man(0, 2), 0);
        Checks.put(x, "force 9;oops");
        Checks.due("4: a fault", x.land(), -9);
        for (int k = 0; k < 2; k++) {
            Checks.put(x, "thing a 0 0 1 0;mill b 0 0;man c 0 9;");
            Checks.due("4: without settings", x.land(), 3);
            int[] counts = {10, 10, 0, 1, 1, 1, 12};
            for (int what = 0; what < counts.length; what++) {
                Checks.due("4: count(" + what + ")", x.count(what), counts[what]);
            }
            int[] airs = {1, 1, 1, 1, 1, 0, 2, 2, 2, 2, 2, 0};
            for (int hour = 0; hour < 36; hour++) {
                Checks.due("4: air(0, " + hour + ")", x.air(0, hour), airs[hour % 12]);
            }
            Checks.due("4: force(0, 9)", x.force(0, 9), 4);
            Checks.due("4: not tied", x.thing(0, 5), 0);
            x.hours(1);
        }
        Checks.due("4: default force and fade", Checks.hill("long 20 20;").force(0, 19), 4);
    }

    private static void promise05FaultsOfTokens() {
        due(";", 0, 1);
        due("long", 4, 1);
        due("long 1 1", 8, 1);
        due("long 1 1  \n", 11, 1);
        due("long 1 1;;", 9, 1);
        due("long 1 1 1;", 9, 1);
        due("  Long 1 1;", 2, 1);
        due("long1 1;", 0, 1);
        due("long 1a 1;", 5, 1);
        due("long 1000 1;", 5, 1);
        due("long\t1 1;", 4, 1);
        due("long a 1;", 5, 1);
        due("other 1;", 0, 1);
        due("7;", 0, 1);
        due("tied;", 0, 1);
        due("force 4.", 7, 1);
        due("force (4);", 6, 1);
        due("force 4" + (char) 0 + ";", 7, 1);
        due("force 4" + (char) 233 + ";", 7, 1);
        due("thing abcdefgh 0 0 1 0;", 6, 1);
        due("thing 3 0 0 1 0;", 6, 1);
        due("thing a 0 0 1 0 tie;", 16, 1);
        due("thing a 0 0 1 0 tied tied;", 21, 1);
        due("mill a 0 0 tied;", 11, 1);
        String[] words = {"long", "breath", "force", "fade", "held", "passage", "thing", "tied", "mill", "man", "ties",
            "looses", "walks", "hour", "coughs", "or", "and", "not", "inside", "beyond", "lost", "cell", "weight",
            "colour", "number"};
        for (String word : words) {
            due("thing " + word + " 0 0 1 0;", 6, 1);
            due("mill " + word + " 0 0;", 5, 1);
            due("man " + word + " 0 0;", 4, 1);
        }
    }

    private static void promise05FaultsOfNumbers() {
        String[] least = {"long 1 1;", "breath 1 0 1 0;", "force 1;", "fade 1;", "held 0;", "passage 2 1 0;",
            "thing a 0 0 1 0;", "mill a 0 0;", "man a 0 0;"};
        int[][] most = {{20, 20}, {12, 12, 12, 12}, {9}, {20}, {99}, {9, 9, 7}, {1, 9, 9, 7}, {1, 9}, {1, 9}};
        for (int k = 0; k < least.length; k++) {
            String[] words = least[k].substring(0, least[k].length() - 1).split(" ");
            int first = words.length - most[k].length;
            for (int n = first; n < words.length; n++) {
                int low = Integer.parseInt(words[n]);
                int high = most[k][n - first];
                due(with(words, n, low), 1, 0);
                due(with(words, n, high), 1, 0);
                due(with(words, n, high + 1), placeOf(words, n), 2);
                due(with(words, n, 999), placeOf(words, n), 2);
                if (low > 0) {
                    due(with(words, n, low - 1), placeOf(words, n), 2);
                }
            }
        }
        due("long 3 5;thing a 0 3 1 0;", 19, 2);
        due("long 3 5;man a 1 5;", 17, 2);
        due("long 21 a;", 5, 2);
    }

    private static String with(String[] words, int n, int number) {
        String[] all = words.clone();
        all[n] = Integer.toString(number);
        return String.join(" ", all) + ";";
    }

    private static int placeOf(String[] words, int n) {
        int place = 0;
        for (int k = 0; k < n; k++) {
            place += words[k].length() + 1;
        }
        return place;
    }

    private static void promise05FaultsOfWhatIsTold() {
        String[] once = {"long 1 1;", "breath 1 0 1 0;", "force 1;", "fade 1;", "held 0;"};
        for (String line : once) {
            due(line + line, line.length(), 3);
            due(line + line.substring(0, line.indexOf(' ')) + " oops", line.length(), 3);
        }
        String[] named = {"thing a 0 0 1 0;", "mill a 0 0;", "man a 0 0;"};
        for (String line : named) {
            due(line + "long 1 1;", line.length(), 3);
            for (String other : named) {
                due(line + other, line.length() + other.indexOf(" a") + 1, 3);
            }
        }
        due("thing a 0 0 1 0;thing ab 0 0 1 0;thing ba 0 0 1 0;", 3, 0);
        due("thing a 0 0 1 0;mill a 9 9;", 21, 3);
    }

    private static void promise05FaultsOfMany() {
        String passages = "passage 2 1 0;".repeat(4);
        due(passages, 4, 0);
        due(passages + " passage oops", passages.length() + 1, 4);
        String[] sorts = {"thing", "mill", "man"};
        int[] most = {8, 4, 4};
        for (int s = 0; s < sorts.length; s++) {
            String end = s == 0 ? " 0 0 1 0;" : " 0 0;";
            StringBuilder text = new StringBuilder();
            for (int k = 0; k < most[s]; k++) {
                text.append(sorts[s]).append(' ').append((char) ('a' + k)).append(end);
            }
            due(text.toString(), most[s], 0);
            due(text + sorts[s] + " z" + end, text.length(), 4);
            due(text + sorts[s] + " a" + end, text.length(), 4);
        }
    }

    private static void promise05FaultOfLatestText() {
        BreathingHill x = Checks.hill("thing a 0 0 1 0;");
        Checks.put(x, "long 0 0;");
        x.land();
        Checks.due("5: of land()", x.fault(), 2);
        Checks.log(x, "b ties;", 2);
        Checks.due("5: a log() of -1000 leaves it", x.fault(), 2);
        x.log(0);
        Checks.due("5: of log()", x.fault(), 3);
        Checks.sentence(x, "or");
        Checks.due("5: of sentence()", x.fault(), 1);
        Checks.sentence(x, "tied");
        Checks.due("5: without one", x.fault(), 0);
        Checks.put(x, "x");
        x.land();
        Checks.log(x, "a ties;", 0);
        Checks.due("5: without one in a log", x.fault(), 0);
        Checks.put(x, "x");
        x.land();
        Checks.put(x, "");
        x.land();
        Checks.due("5: without one in a land", x.fault(), 0);
    }

    private static void promise05TooLong() {
        due(Checks.padded("force 4;", 900), 1, 0);
        due(Checks.padded("force 4;", 901), 900, 1);
        due(Checks.padded("force 4", 901), 900, 1);
        due(Checks.padded("force 4", 900), 900, 1);
        due(Checks.padded("", 892) + "force 4;", 1, 0);
        due(Checks.padded("", 893) + "force 4;", 900, 1);
        due(Checks.padded("", 898) + "force 4;", 900, 1);
        due(Checks.padded("", 893) + "force 0;", 899, 2);
        due(Checks.padded("", 893) + "force 1000;", 899, 1);
        due(Checks.padded("", 893) + "force 004;", 900, 1);
        due(Checks.padded("", 893) + "force 010;", 899, 2);
        due(Checks.padded("", 894) + "force 0;", 900, 1);
        due(Checks.padded("", 899) + "x", 899, 1);
        due(Checks.padded("", 900) + "x", 900, 1);
        due(Checks.padded("x", 940), 0, 1);
    }

    private static void due(String text, int answer, int kind) {
        BreathingHill x = new BreathingHill();
        Checks.put(x, text);
        Checks.due("4: land() of '" + text.trim() + "'", x.land(), kind == 0 ? answer : -1 - answer);
        Checks.due("5: fault() of '" + text.trim() + "'", x.fault(), kind);
    }

    private static void promise40Count() {
        BreathingHill x = Checks.hill("long 7 8;breath 1 2 3 4;passage 2 1 0;thing a 0 0 1 0;thing b 0 0 1 0;"
            + "thing c 0 0 1 0;mill d 0 0;mill e 0 0;man f 0 0;");
        x.feed(1, 2, 3, 4, 5);
        int[] counts = {7, 8, 1, 3, 2, 1, 10, 20};
        for (int what = 0; what < counts.length; what++) {
            Checks.due("40: count(" + what + ")", x.count(what), counts[what]);
        }
        Checks.due("40: count(8)", x.count(8), -1);
        Checks.due("40: count(-1)", x.count(-1), -1);
        Checks.due("40: count(MIN)", x.count(Integer.MIN_VALUE), -1);
    }
}
