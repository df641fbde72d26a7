import java.nio.charset.StandardCharsets;
import java.util.NoSuchElementException;
import java.util.Random;

/** Random runs of calls, by fixed seeds, on the class and on the Model at once: like answers are due. */
public final class ModelTest {
    private static final int RUNS = 1700;
    // an object is used for 512 calls, and a text takes up to some sixty of them
    private static final int CALLS = 445;
    private static final String[] WORDS = {"long", "breath", "force", "fade", "held", "passage", "thing", "tied", "mill",
        "man", "ties", "looses", "walks", "hour", "coughs", "or", "and", "not", "inside", "beyond", "lost", "cell",
        "weight", "colour", "number", ";", "<", "=", ">", "(", ")", ".", "a", "b", "abcdefgh", "x1", "1000", "0", "1",
        "7", "9", "20", "99", "A"};

    private final Random random;
    private final BreathingHill hill = new BreathingHill();
    private final Model model = new Model();
    private final int run;
    private int calls = 0;
    private int[] lastFaults = new int[5];

    private ModelTest(int run) {
        this.run = run;
        random = new Random(run);
    }

    public static void main(String[] args) {
        int[] faults = new int[5];
        for (int run = 0; run < RUNS; run++) {
            ModelTest test = new ModelTest(run);
            test.play();
            for (int kind = 0; kind < 5; kind++) {
                faults[kind] += test.lastFaults[kind];
            }
        }
        for (int kind = 0; kind < 5; kind++) {
            Checks.due("texts with a fault of kind " + kind + " came", faults[kind] > 100, true);
        }
        Checks.finish();
    }

    private void play() {
        if (random.nextInt(10) > 0) {
            text(landText(false));
            due("land()", hill.land(), model.land());
        }
        while (calls < CALLS) {
            int kind = random.nextInt(100);
            if (kind < 12) {
                texts();
            } else if (kind < 30) {
                acts();
            } else if (kind < 60) {
                questions();
            } else {
                looks();
            }
        }
    }

    private void due(String call, int got, int want) {
        calls++;
        Checks.due("run " + run + ", call " + calls + ": " + call, got, want);
    }

    private void due(String call, boolean got, boolean want) {
        due(call, got ? 1 : 0, want ? 1 : 0);
    }

    /** Mostly from 0 to most - 1, now and then beside it. */
    private int near(int most) {
        int choice = random.nextInt(40);
        if (choice == 0) {
            return -1 - random.nextInt(3);
        }
        if (choice == 1) {
            return most + random.nextInt(3);
        }
        if (choice == 2) {
            return random.nextInt();
        }
        return most < 1 ? 0 : random.nextInt(most);
    }

    private int pick(int least, int most) {
        return least + random.nextInt(most - least + 1);
    }

    private void text(String text) {
        text(text.getBytes(StandardCharsets.ISO_8859_1));
    }

    private void text(byte[] bytes) {
        if (random.nextInt(30) > 0) {
            due("end(0)", hill.end(0), model.end(0));
        }
        for (int at = 0; at < bytes.length; at += 20) {
            int[] n = new int[5];
            for (int k = 0; k < 20; k++) {
                n[k / 4] = n[k / 4] << 8 | (at + k < bytes.length ? bytes[at + k] & 255 : 32);
            }
            due("feed()", hill.feed(n[0], n[1], n[2], n[3], n[4]), model.feed(n));
        }
        int end = random.nextInt(40) == 0 ? near(941) : bytes.length;
        due("end(" + end + ")", hill.end(end), model.end(end));
    }

    private String blank() {
        int choice = random.nextInt(12);
        return choice == 0 ? "\n" : choice == 1 ? "  " : " ";
    }

    private String name() {
        int choice = random.nextInt(60);
        if (choice == 0) {
            return WORDS[random.nextInt(WORDS.length)];
        }
        return choice < 4 ? "abcdefg" : "" + (char) ('a' + random.nextInt(22));
    }

    private String freshName(int k) {
        return random.nextInt(50) == 0 ? name() : "" + (char) ('a' + k);
    }

    private String landText(boolean spoilt) {
        StringBuilder text = new StringBuilder();
        int zero = 10;
        int one = 10;
        if (random.nextInt(3) > 0) {
            zero = pick(1, 20);
            one = pick(1, 20);
            text.append("long ").append(zero).append(blank()).append(one).append(";");
        }
        if (random.nextInt(4) > 0) {
            boolean quick = random.nextBoolean();
            text.append("breath ").append(pick(1, quick ? 4 : 12)).append(' ').append(pick(0, quick ? 1 : 12)).append(' ')
                .append(pick(1, quick ? 4 : 12)).append(' ').append(pick(0, quick ? 1 : 12)).append(" ;");
        }
        if (random.nextInt(3) > 0) {
            text.append("force ").append(pick(1, 9)).append(";");
        }
        if (random.nextInt(3) > 0) {
            text.append("fade ").append(pick(1, 20)).append(";");
        }
        if (random.nextInt(3) == 0) {
            text.append("held ").append(pick(0, 12)).append(";");
        }
        int[] counts = {pick(0, 4), pick(0, 8), pick(0, 4), pick(0, 4)};
        if (spoilt && random.nextInt(4) == 0) {
            counts[random.nextInt(4)] += 5;
        }
        for (int k = 0; k < counts[0]; k++) {
            text.append("passage ").append(pick(2, random.nextInt(3) == 0 ? 9 : 4)).append(' ').append(pick(1, 9)).append(' ')
                .append(pick(0, 7)).append(";");
        }
        int named = 0;
        for (int sort = 1; sort <= 3; sort++) {
            for (int k = 0; k < counts[sort]; k++) {
                int valley = random.nextInt(2);
                text.append(new String[] {"thing ", "mill ", "man "}[sort - 1]).append(freshName(named++)).append(' ')
                    .append(valley).append(blank()).append(random.nextInt(valley == 0 ? zero : one));
                if (sort == 1) {
                    text.append(' ').append(pick(1, random.nextBoolean() ? 9 : 4)).append(' ').append(pick(0, 7));
                    text.append(random.nextInt(6) == 0 ? " tied" : "");
                }
                text.append(";");
            }
        }
        return spoilt ? spoil(text.toString(), 900) : text.toString();
    }

    private String logText() {
        StringBuilder text = new StringBuilder();
        int lines = random.nextInt(12) == 0 ? pick(38, 42) : pick(0, 6);
        for (int k = 0; k < lines; k++) {
            switch (random.nextInt(6)) {
                case 0:
                    text.append("hour ").append(random.nextInt(30) == 0 ? pick(0, 62) : pick(1, 5));
                    break;
                case 1:
                    text.append("coughs");
                    break;
                case 2:
                    text.append(nameOf(model.count(3) + model.count(4), model.count(5))).append(" walks ").append(near(20) & 31);
                    break;
                default:
                    text.append(nameOf(0, model.count(3))).append(random.nextBoolean() ? " ties" : " looses");
                    break;
            }
            text.append(random.nextBoolean() ? ";" : " ;").append(random.nextInt(5) == 0 ? "\n" : "");
        }
        return random.nextInt(4) == 0 ? spoil(text.toString(), 400) : text.toString();
    }

    private String nameOf(int first, int many) {
        return many == 0 || random.nextInt(25) == 0 ? name() : "" + (char) ('a' + first + random.nextInt(many));
    }

    private String sentenceText() {
        StringBuilder text = new StringBuilder();
        cond(text, 0);
        return random.nextInt(4) == 0 ? spoil(text.toString(), 200) : text.toString();
    }

    private void cond(StringBuilder text, int deep) {
        int many = random.nextInt(3) + (random.nextInt(20) == 0 ? 18 : 0);
        one(text, deep);
        for (int k = 0; k < many && text.length() < 260; k++) {
            text.append(random.nextBoolean() ? " or " : " and ");
            one(text, deep);
        }
    }

    private void one(StringBuilder text, int deep) {
        int choice = random.nextInt(deep > 9 ? 8 : 14);
        if (choice < 4) {
            text.append(new String[] {"tied", "inside", "beyond", "lost"}[choice]);
        } else if (choice < 8) {
            text.append(new String[] {"cell", "weight", "colour", "number"}[choice - 4]).append(blank())
                .append("<=>".charAt(random.nextInt(3))).append(random.nextInt(9));
        } else if (choice < 11) {
            text.append("not ");
            one(text, deep + 1);
        } else {
            text.append("(");
            cond(text, deep + 1);
            text.append(random.nextInt(40) == 0 ? "" : ")");
        }
    }

    /** Puts one TOKEN in, out or in another's stead, cuts the text, or makes it too long. */
    private String spoil(String text, int most) {
        int choice = random.nextInt(8);
        int at = random.nextInt(text.length() + 1);
        String word = WORDS[random.nextInt(WORDS.length)];
        if (choice == 0) {
            return text.substring(0, at);
        }
        if (choice == 1) {
            return text.substring(0, at) + (char) random.nextInt(256) + text.substring(at);
        }
        if (choice == 2 || choice == 3) {
            int longer = most + random.nextInt(12) - 6;
            String all = choice == 2 ? text + " ".repeat(Math.max(0, longer - text.length()))
                : " ".repeat(Math.max(0, longer - text.length())) + text;
            return all.substring(0, Math.min(940, all.length()));
        }
        String[] words = text.split("(?<=[ ;\n])|(?=[ ;\n])");
        int k = random.nextInt(words.length);
        words[k] = choice < 6 ? word : choice == 6 ? "" : words[k] + " " + word + " ";
        return String.join("", words);
    }

    private void texts() {
        int choice = random.nextInt(10);
        if (choice == 0) {
            text(landText(true));
            due("land()", hill.land(), model.land());
            tell();
        } else if (choice < 5) {
            text(logText());
            int lives = random.nextInt(20) == 0 ? near(2) : random.nextInt(2);
            due("log(" + lives + ")", hill.log(lives), model.log(lives));
            tell();
        } else if (choice < 8) {
            text(sentenceText());
            due("sentence()", hill.sentence(), model.sentence());
            tell();
        } else {
            byte[] asked = {(byte) near(2), (byte) random.nextInt(256), (byte) pick(0, random.nextInt(9) == 0 ? 255 : 12),
                (byte) (random.nextInt(9) == 0 ? random.nextInt(256) : random.nextInt(8))};
            text(asked);
            due("which()", hill.which(), model.which());
        }
    }

    private void tell() {
        due("fault()", hill.fault(), model.fault());
        lastFaults[model.fault()]++;
        for (int what = 0; what < 4; what++) {
            due("logged(" + what + ")", hill.logged(what), model.logged(what));
        }
    }

    private void acts() {
        int a = near(8);
        int b;
        switch (random.nextInt(9)) {
            case 0:
            case 1:
                b = near(2);
                due("tie(" + a + ", " + b + ")", hill.tie(a, b), model.tie(a, b));
                break;
            case 2:
                a = near(4);
                b = near(20);
                due("walk(" + a + ", " + b + ")", hill.walk(a, b), model.walk(a, b));
                break;
            case 3:
                due("cough()", hill.cough(), model.cough());
                break;
            case 4:
                b = random.nextInt(6) == 0 ? near(62) : pick(1, 3);
                due("hours(" + b + ")", hill.hours(b), model.hours(b));
                break;
            case 5:
                due("undo()", hill.undo(), model.undo());
                break;
            case 6:
                b = random.nextInt();
                a = near(62);
                due("drawn(" + a + ", " + b + ")", hill.drawn(a, b), model.drawn(a, b));
                break;
            case 7:
                a = near(2);
                due("image(" + a + ")", hill.image(a), model.image(a));
                break;
            default:
                a = near(2);
                due("restore(" + a + ")", hill.restore(a), model.restore(a));
                break;
        }
    }

    private void questions() {
        int v = near(2);
        int cell = near(random.nextBoolean() ? 3 : 20);
        int weight = pick(1, 5) + (random.nextInt(9) == 0 ? near(9) : 0);
        int hour = random.nextInt(3) > 0 ? near(1000) : model.now(0);
        int t = near(8);
        int n = near(401);
        int seed = random.nextInt();
        int set = near(1 << model.count(3));
        switch (random.nextInt(16)) {
            case 0: due("letter", hill.letter(v, cell, weight, hour), model.letter(v, cell, weight, hour)); break;
            case 1: due("heaviest", hill.heaviest(v, cell, hour, n), model.heaviest(v, cell, hour, n)); break;
            case 2: due("best", hill.best(v, cell, weight), model.best(v, cell, weight)); break;
            case 3: due("soonest", hill.soonest(t / 2, cell), model.soonest(t / 2, cell)); break;
            case 4: due("reach", hill.reach(t / 2, n / 6), model.reach(t / 2, n / 6)); break;
            case 5: due("dry", hill.dry(v, cell, n / 4), model.dry(v, cell, n / 4)); break;
            case 6: due("ties", hill.ties(set, n / 2), model.ties(set, n / 2)); break;
            case 7: due("turn", hill.turn(t + 1), model.turn(t + 1)); break;
            case 8: due("guard", hill.guard(v), model.guard(v)); break;
            case 9: due("prices", hill.prices(), model.prices()); break;
            case 10: due("price", hill.price(v), model.price(v)); break;
            case 11: due("later", hill.later(t, n), model.later(t, n)); break;
            case 12: due("meet", hill.meet(t, cell), model.meet(t, cell)); break;
            case 13: due("odds", hill.odds(t, n / 10, seed), model.odds(t, n / 10, seed)); break;
            case 14: due("said", hill.said(t - 1), model.said(t - 1)); break;
            default: due("air", hill.air(v, hour), model.air(v, hour)); break;
        }
    }

    private void looks() {
        int what = near(8);
        int one = near(8);
        switch (random.nextInt(8)) {
            case 0: due("mill", hill.mill(one / 2, what / 2), model.mill(one / 2, what / 2)); break;
            case 1: due("man", hill.man(one / 2, what / 2), model.man(one / 2, what / 2)); break;
            case 2: due("passage", hill.passage(one / 2, what / 2), model.passage(one / 2, what / 2)); break;
            case 3: due("now", hill.now(what), model.now(what)); break;
            case 4: due("count", hill.count(what), model.count(what)); break;
            case 5: due("force", hill.force(one / 4, what * 2), model.force(one / 4, what * 2)); break;
            default: due("thing(" + one + ", " + what + ")", thingOf(one, what), thingOfModel(one, what)); break;
        }
    }

    private int thingOf(int t, int what) {
        try {
            return hill.thing(t, what);
        } catch (NoSuchElementException e) {
            return Integer.MIN_VALUE;
        }
    }

    private int thingOfModel(int t, int what) {
        try {
            return model.thing(t, what);
        } catch (NoSuchElementException e) {
            return Integer.MIN_VALUE;
        }
    }
}
