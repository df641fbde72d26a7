import java.util.ArrayDeque;
import java.util.ArrayList;
import java.util.Arrays;
import java.util.HashSet;
import java.util.LinkedHashMap;
import java.util.List;
import java.util.Map;
import java.util.NoSuchElementException;
import java.util.Set;
import java.util.function.Predicate;

/**
 * A second reading of the document, made for plainness alone: states are copied whole for each
 * question, texts are split into TOKENS first, a FAULT is an exception.
 */
final class Model {
    private static final Set<String> WORDS = new HashSet<>(Arrays.asList("long", "breath", "force", "fade", "held",
        "passage", "thing", "tied", "mill", "man", "ties", "looses", "walks", "hour", "coughs", "or", "and", "not",
        "inside", "beyond", "lost", "cell", "weight", "colour", "number"));

    private static final class Fault extends RuntimeException {
        private static final long serialVersionUID = 1;
        final int kind;
        final int place;

        Fault(int kind, int place) {
            this.kind = kind;
            this.place = place;
        }
    }

    private record Token(String text, int place) {
        boolean isWord() {
            return text.matches("[a-z]{1,7}");
        }

        boolean isNumber() {
            return text.matches("[0-9]{1,3}");
        }

        boolean isName() {
            return isWord() && !WORDS.contains(text);
        }
    }

    private static final class Text {
        final List<Token> tokens = new ArrayList<>();
        int at = 0;

        Text(byte[] bytes, int most) {
            int k = 0;
            while (k < bytes.length && k < most) {
                int from = k;
                char sign = (char) (bytes[k] & 255);
                if (sign == ' ' || sign == '\n') {
                    k++;
                    continue;
                }
                StringBuilder text = new StringBuilder().append(sign);
                k++;
                if (("" + sign).matches("[a-z0-9]")) {
                    while (k < bytes.length && ("" + (char) (bytes[k] & 255)).matches("[a-z0-9]")) {
                        text.append((char) (bytes[k++] & 255));
                    }
                }
                tokens.add(new Token(text.toString(), from));
            }
            // neither "!" nor "" is ever a TOKEN that may come; "" alone may end a text
            tokens.add(bytes.length > most ? new Token("!", most) : new Token("", bytes.length));
        }

        Token peek() {
            return tokens.get(at);
        }

        boolean ended() {
            return peek().text.isEmpty();
        }

        Token next() {
            return tokens.get(at++);
        }

        void take(String due) {
            if (!peek().text.equals(due)) {
                throw new Fault(1, peek().place);
            }
            at++;
        }

        int number(int least, int most) {
            Token t = peek();
            if (!t.isNumber()) {
                throw new Fault(1, t.place);
            }
            int n = Integer.parseInt(t.text);
            if (n < least || n > most) {
                throw new Fault(2, t.place);
            }
            at++;
            return n;
        }
    }

    private static final class Thing implements Cloneable {
        int told;
        int where;
        int cell;
        int passage = -1;
        int from = -1;
        int colour;
        int tied;
        int weight;
        int beyond = 0;

        Thing copy() {
            try {
                return (Thing) clone();
            } catch (CloneNotSupportedException e) {
                throw new IllegalStateException(e);
            }
        }
    }

    /** The LAND and all that is so. */
    private static final class World {
        int[] cells = {10, 10};
        int[] breath = {5, 1, 5, 1};
        int force = 4;
        int fade = 20;
        int held = -1;
        List<int[]> passages = new ArrayList<>();
        List<Thing> things = new ArrayList<>();
        List<int[]> mills = new ArrayList<>();
        List<int[]> men = new ArrayList<>();
        Map<String, String> names = new LinkedHashMap<>();
        int hour = 0;

        World copy() {
            World w = new World();
            w.cells = cells;
            w.breath = breath;
            w.force = force;
            w.fade = fade;
            w.held = held;
            w.passages = passages;
            things.forEach(t -> w.things.add(t.copy()));
            mills.forEach(m -> w.mills.add(m.clone()));
            men.forEach(m -> w.men.add(m.clone()));
            w.names = names;
            w.hour = hour;
            return w;
        }

        int whole() {
            return Arrays.stream(breath).sum();
        }

        /** 1 to the cleft, -1 from it, 0 still. */
        int wind(int valley, int h) {
            if (h > 999 || h / whole() == held) {
                return 0;
            }
            int[] ways = {1, 0, -1, 0};
            int k = h % whole();
            int part = 0;
            while (k >= breath[part]) {
                k -= breath[part++];
            }
            return valley == 0 ? ways[part] : -ways[part];
        }

        int push(int cell) {
            return Math.max(0, force - cell / fade);
        }

        void moveThing(Thing t, int h) {
            if (t.tied == 1 || t.where == 3) {
                return;
            }
            if (t.where == 2) {
                t.cell += wind(t.from, h);
                int[] p = passages.get(t.passage);
                if (t.cell == 0 || t.cell == p[0]) {
                    boolean through = t.cell == p[0];
                    t.where = through ? 1 - t.from : t.from;
                    t.colour = through ? (t.colour + p[2]) % 8 : t.colour;
                    t.beyond += through ? 1 : 0;
                    t.cell = 0;
                    t.passage = -1;
                    t.from = -1;
                }
                return;
            }
            int wind = wind(t.where, h);
            if (wind == 1 && t.cell == 0) {
                for (int p = 0; p < passages.size(); p++) {
                    if (push(0) >= t.weight && passages.get(p)[1] >= t.weight) {
                        t.passage = p;
                        t.from = t.where;
                        t.where = 2;
                        t.cell = 1;
                        return;
                    }
                }
                return;
            }
            t.cell = Math.max(0, t.cell - wind * (push(t.cell) / t.weight));
            if (t.cell >= cells[t.where]) {
                t.where = 3;
                t.cell = -1;
            }
        }

        boolean pass() {
            if (hour >= 1000) {
                return false;
            }
            things.forEach(t -> moveThing(t, hour));
            for (int[] m : mills) {
                m[2] += wind(m[0], hour) != 0 && push(m[1]) > 0 ? 1 : 0;
            }
            hour++;
            return true;
        }

        int tie(int t, int on) {
            Thing it = things.get(t);
            if (it.where == 3) {
                return 1;
            }
            if (on == 0) {
                if (it.tied == 0) {
                    return 2;
                }
            } else if (it.where == 2) {
                return 2;
            } else if (it.tied == 1) {
                return 3;
            }
            it.tied = on;
            return 0;
        }

        int cough() {
            int any = 1;
            for (Thing t : things) {
                if (t.where == 2) {
                    any = 0;
                    t.where = 0;
                    t.cell = 0;
                    t.passage = -1;
                    t.from = -1;
                }
            }
            return any;
        }

        /** Walks, on this world, till he is there; false if the HOURS end. */
        boolean walk(int m, int goal) {
            int[] man = men.get(m);
            while (man[1] != goal) {
                int way = goal < man[1] ? 1 : -1;
                int wind = wind(man[0], hour);
                int steps = wind == way ? 2 : wind == 0 || push(man[1]) < 4 ? 1 : 0;
                if (!pass()) {
                    return false;
                }
                man[1] -= way * Math.min(steps, Math.abs(goal - man[1]));
                man[2]++;
            }
            return true;
        }

        int bits(Predicate<Thing> asked) {
            int bits = 0;
            for (int t = 0; t < things.size(); t++) {
                bits |= asked.test(things.get(t)) ? 1 << t : 0;
            }
            return bits;
        }

        int drawn(int n, int seed) {
            int gone = 0;
            int[] x = {seed};
            while (gone < n && hour < 1000) {
                if (draw(x, 20) == 0) {
                    int t = draw(x, things.size());
                    if (tie(t, 0) != 0) {
                        tie(t, 1);
                    }
                }
                if (draw(x, 30) == 0) {
                    cough();
                }
                pass();
                gone++;
            }
            return gone;
        }

        private static int draw(int[] x, int n) {
            x[0] = x[0] * 1103515245 + 12345;
            return (x[0] >>> 8) % n;
        }
    }

    private interface Condition {
        boolean of(Thing thing, int number);
    }

    private record Image(World world, Condition sentence) {
    }

    private byte[] tape = new byte[0];
    private World w = new World();
    private Condition sentence = null;
    private final ArrayDeque<World> past = new ArrayDeque<>();
    private final Image[] images = new Image[2];
    private int fault = 0;
    private int[] logged = null;
    private int[] price = null;
    private int ones;

    int feed(int... numbers) {
        if (tape.length + 20 > 940) {
            return -1;
        }
        int at = tape.length;
        tape = Arrays.copyOf(tape, at + 20);
        for (int n : numbers) {
            tape[at++] = (byte) (n >> 24);
            tape[at++] = (byte) (n >> 16);
            tape[at++] = (byte) (n >> 8);
            tape[at++] = (byte) n;
        }
        return tape.length;
    }

    boolean end(int n) {
        if (n < 0 || n > tape.length) {
            return false;
        }
        tape = Arrays.copyOf(tape, n);
        return true;
    }

    private byte[] takeTape() {
        byte[] all = tape;
        tape = new byte[0];
        return all;
    }

    int land() {
        Text text = new Text(takeTape(), 900);
        fault = 0;
        try {
            World told = new World();
            Set<String> once = new HashSet<>();
            int lines = 0;
            while (!text.ended()) {
                readLine(text, told, once);
                text.take(";");
                lines++;
            }
            w = told;
            sentence = null;
            past.clear();
            return lines;
        } catch (Fault f) {
            fault = f.kind;
            return -1 - f.place;
        }
    }

    private static void readLine(Text text, World told, Set<String> once) {
        Token first = text.next();
        switch (first.text) {
            case "long", "breath", "force", "fade", "held" -> {
                if (!once.add(first.text) || first.text.equals("long") && !told.names.isEmpty()) {
                    throw new Fault(3, first.place);
                }
                readOnce(text, told, first.text);
            }
            case "passage" -> {
                many(told.passages, 4, first);
                told.passages.add(new int[] {text.number(2, 9), text.number(1, 9), text.number(0, 7)});
            }
            case "thing" -> {
                many(told.things, 8, first);
                int[] place = readPlace(text, told, "thing " + told.things.size());
                Thing t = new Thing();
                t.told = place[0];
                t.where = place[0];
                t.cell = place[1];
                t.weight = text.number(1, 9);
                t.colour = text.number(0, 7);
                if (text.peek().text.equals("tied")) {
                    text.next();
                    t.tied = 1;
                }
                told.things.add(t);
            }
            case "mill" -> {
                many(told.mills, 4, first);
                told.mills.add(readPlace(text, told, "mill " + told.mills.size()));
            }
            case "man" -> {
                many(told.men, 4, first);
                told.men.add(readPlace(text, told, "man " + told.men.size()));
            }
            default -> throw new Fault(1, first.place);
        }
    }

    private static void readOnce(Text text, World told, String what) {
        switch (what) {
            case "long" -> told.cells = new int[] {text.number(1, 20), text.number(1, 20)};
            case "breath" -> told.breath = new int[] {text.number(1, 12), text.number(0, 12), text.number(1, 12),
                text.number(0, 12)};
            case "force" -> told.force = text.number(1, 9);
            case "fade" -> told.fade = text.number(1, 20);
            default -> told.held = text.number(0, 99);
        }
    }

    private static void many(List<?> some, int most, Token first) {
        if (some.size() == most) {
            throw new Fault(4, first.place);
        }
    }

    private static int[] readPlace(Text text, World told, String who) {
        Token name = text.next();
        if (!name.isName()) {
            throw new Fault(1, name.place);
        }
        if (told.names.putIfAbsent(name.text, who) != null) {
            throw new Fault(3, name.place);
        }
        int valley = text.number(0, 1);
        return new int[] {valley, text.number(0, told.cells[valley] - 1), 0};
    }

    int fault() {
        return fault;
    }

    private boolean isThing(int t) {
        return 0 <= t && t < w.things.size();
    }

    private boolean isMan(int m) {
        return 0 <= m && m < w.men.size();
    }

    private boolean isCell(int valley, int cell) {
        return (valley == 0 || valley == 1) && 0 <= cell && cell < w.cells[valley];
    }

    private static boolean within(int n, int least, int most) {
        return least <= n && n <= most;
    }

    int thing(int t, int what) {
        if (!isThing(t) || !within(what, 0, 7)) {
            throw new NoSuchElementException();
        }
        Thing it = w.things.get(t);
        return new int[] {it.where, it.cell, it.passage, it.from, it.colour, it.tied, it.weight, it.beyond}[what];
    }

    int mill(int m, int what) {
        return within(m, 0, w.mills.size() - 1) && within(what, 0, 2) ? w.mills.get(m)[what] : -1;
    }

    int man(int m, int what) {
        return isMan(m) && within(what, 0, 2) ? w.men.get(m)[what] : -1;
    }

    int passage(int p, int what) {
        if (!within(p, 0, w.passages.size() - 1) || !within(what, 0, 3)) {
            return -1;
        }
        return what < 3 ? w.passages.get(p)[what] : w.bits(t -> t.passage == p);
    }

    int now(int what) {
        return switch (what) {
            case 0 -> w.hour;
            case 1 -> w.hour / w.whole();
            case 2 -> w.hour == 1000 ? 0 : air(0, w.hour);
            case 3 -> w.bits(t -> t.where == 2);
            case 4 -> w.bits(t -> t.where == 3);
            case 5 -> w.bits(t -> t.where == 0);
            case 6 -> w.bits(t -> t.where == 1);
            default -> -1;
        };
    }

    int air(int valley, int hour) {
        return within(valley, 0, 1) && within(hour, 0, 999) ? new int[] {2, 0, 1}[w.wind(valley, hour) + 1] : -1;
    }

    int force(int valley, int cell) {
        return isCell(valley, cell) ? w.push(cell) : -1;
    }

    private void keep(World before) {
        past.push(before);
        if (past.size() > 8) {
            past.removeLast();
        }
    }

    int tie(int t, int on) {
        if (!isThing(t) || !within(on, 0, 1)) {
            return -1;
        }
        World before = w.copy();
        int why = w.tie(t, on);
        if (why == 0) {
            keep(before);
        }
        return why;
    }

    private static int whyNoWalk(World world, int m, int cell) {
        return world.men.get(m)[1] == cell ? 1 : world.copy().walk(m, cell) ? 0 : 2;
    }

    int walk(int m, int cell) {
        if (!isMan(m) || !isCell(w.men.get(m)[0], cell)) {
            return -1;
        }
        int why = whyNoWalk(w, m, cell);
        if (why == 0) {
            keep(w.copy());
            w.walk(m, cell);
        }
        return why;
    }

    int cough() {
        World before = w.copy();
        int why = w.cough();
        if (why == 0) {
            keep(before);
        }
        return why;
    }

    int hours(int n) {
        if (!within(n, 1, 60)) {
            return -1;
        }
        World before = w.copy();
        int gone = 0;
        while (gone < n && w.pass()) {
            gone++;
        }
        if (gone > 0) {
            keep(before);
        }
        return gone;
    }

    int undo() {
        if (past.isEmpty()) {
            return -1;
        }
        w = past.pop();
        return past.size();
    }

    private int hoursBeyond(int valley, int cell, int weight, int hour) {
        World alone = w.copy();
        alone.things.clear();
        Thing t = new Thing();
        t.where = valley;
        t.cell = cell;
        t.weight = weight;
        alone.things.add(t);
        alone.hour = hour;
        for (int n = 1; n <= 400 && alone.pass(); n++) {
            if (t.beyond == 1) {
                return n;
            }
        }
        return -1;
    }

    int letter(int valley, int cell, int weight, int hour) {
        boolean such = isCell(valley, cell) && within(weight, 1, 9) && within(hour, 0, 999);
        return such ? hoursBeyond(valley, cell, weight, hour) : -1;
    }

    int heaviest(int valley, int cell, int hour, int n) {
        int heaviest = -1;
        for (int weight = 1; weight <= 9 && within(n, 1, 400); weight++) {
            int hours = letter(valley, cell, weight, hour);
            heaviest = hours > 0 && hours <= n ? weight : heaviest;
        }
        return heaviest;
    }

    int best(int valley, int cell, int weight) {
        if (!isCell(valley, cell) || !within(weight, 1, 9)) {
            return -1;
        }
        int[] ends = new int[30];
        int least = 9999;
        for (int k = 0; k < 30; k++) {
            int hours = letter(valley, cell, weight, w.hour + k);
            ends[k] = hours < 0 ? 99999 : w.hour + k + hours;
            least = Math.min(least, ends[k]);
        }
        int bits = 0;
        for (int k = 0; k < 30; k++) {
            bits |= ends[k] == least ? 1 << k : 0;
        }
        return bits;
    }

    int soonest(int m, int cell) {
        if (!isMan(m) || !isCell(w.men.get(m)[0], cell)) {
            return -1;
        }
        World other = w.copy();
        return other.walk(m, cell) ? other.hour - w.hour : -1;
    }

    int reach(int m, int n) {
        if (!isMan(m) || !within(n, 0, 60)) {
            return -1;
        }
        int bits = 0;
        for (int cell = 0; cell < w.cells[w.men.get(m)[0]]; cell++) {
            bits |= within(soonest(m, cell), 0, n) ? 1 << cell : 0;
        }
        return bits;
    }

    int dry(int valley, int cell, int n) {
        if (!isCell(valley, cell) || !within(n, 1, 99)) {
            return -1;
        }
        int left = n;
        for (int k = 1; k <= 400 && w.hour + k <= 1000; k++) {
            left -= w.wind(valley, w.hour + k - 1) == 0 ? 0 : w.push(cell);
            if (left <= 0) {
                return k;
            }
        }
        return -1;
    }

    int which() {
        byte[] asked = takeTape();
        if (asked.length != 4 || !within(asked[0], 0, 1)) {
            return -1;
        }
        int bits = 0;
        for (int p = 0; p < w.passages.size(); p++) {
            int hour = asked[1] & 255;
            int far = w.wind(asked[0], hour);
            int inside = 1;
            while (far > 0 && far < w.passages.get(p)[0] && inside < 256) {
                hour++;
                inside++;
                far += w.wind(asked[0], hour);
            }
            boolean by = far == w.passages.get(p)[0] && inside == (asked[2] & 255) && w.passages.get(p)[2] == (asked[3] & 7);
            bits |= by ? 1 << p : 0;
        }
        return bits;
    }

    int ties(int set, int n) {
        if (set < 0 || set >> w.things.size() != 0 || !within(n, 1, 200)) {
            return -1;
        }
        int bits = 0;
        for (int t = 0; t < w.things.size(); t++) {
            Thing it = w.things.get(t);
            if ((set >> t & 1) == 0 || it.tied == 1 || it.where > 1) {
                continue;
            }
            World other = w.copy();
            for (int k = 0; k < n && other.pass(); k++) {
                bits |= other.things.get(t).where > 1 ? 1 << t : 0;
            }
        }
        return bits;
    }

    int turn(int n) {
        int left = n;
        for (int hour = w.hour + 1; hour <= 999 && within(n, 1, 9); hour++) {
            if (air(0, hour) != air(0, hour - 1) && --left == 0) {
                return hour;
            }
        }
        return -1;
    }

    int guard(int valley) {
        int guarded = -1;
        int most = 0;
        for (int c = 0; isCell(valley, c); c++) {
            int cell = c;
            int near = Integer.bitCount(w.bits(t -> t.where == valley && t.tied == 0 && within(t.cell, cell - 2, cell + 2)));
            if (near > most) {
                most = near;
                guarded = cell;
            }
        }
        return guarded;
    }

    int prices() {
        World other = w.copy();
        price = new int[] {10, 10};
        for (int round = 1; round <= 40; round++) {
            int more = Integer.signum(Integer.bitCount(other.bits(t -> t.where == 0)) - Integer.bitCount(other.bits(t -> t.where == 1)));
            if (more == 0) {
                return round;
            }
            price[0] -= more;
            price[1] += more;
            other.pass();
        }
        return 40;
    }

    int price(int valley) {
        return price != null && within(valley, 0, 1) ? price[valley] : -1;
    }

    int later(int t, int n) {
        if (!isThing(t) || !within(n, 0, 400)) {
            return -1;
        }
        World other = w.copy();
        for (int k = 0; k < n; k++) {
            other.pass();
        }
        Thing it = other.things.get(t);
        return it.where == 3 ? 300 : 100 * it.where + it.cell;
    }

    int meet(int t, int u) {
        if (!isThing(t) || !isThing(u) || t == u) {
            return -2;
        }
        World other = w.copy();
        int gone = 0;
        do {
            Thing one = other.things.get(t);
            Thing two = other.things.get(u);
            if (one.where < 2 && one.where == two.where && one.cell == two.cell) {
                return other.hour - 1;
            }
        } while (gone++ < 200 && other.pass());
        return -2;
    }

    int drawn(int n, int seed) {
        if (!within(n, 1, 60) || w.things.isEmpty()) {
            return -1;
        }
        World before = w.copy();
        int gone = w.drawn(n, seed);
        if (gone > 0) {
            keep(before);
        }
        return gone;
    }

    int odds(int t, int n, int seed) {
        if (!isThing(t) || !within(n, 1, 30)) {
            return -1;
        }
        int beyond = 0;
        for (int k = 0; k < n; k++) {
            World other = w.copy();
            other.drawn(50, seed + k);
            beyond += other.things.get(t).where == 1 - other.things.get(t).told ? 1 : 0;
        }
        return beyond;
    }

    private record Line(String verb, int who, int number) {
    }

    int log(int lives) {
        if (!within(lives, 0, 1)) {
            return -1000;
        }
        Text text = new Text(takeTape(), 400);
        fault = 0;
        List<Line> lines = new ArrayList<>();
        try {
            while (!text.ended()) {
                lines.add(readLogLine(text, lines.size()));
                text.take(";");
            }
        } catch (Fault f) {
            fault = f.kind;
            return -2 - f.place;
        }
        World other = w.copy();
        int why = 0;
        int done = 0;
        while (done < lines.size() && (why = live(other, lines.get(done))) == 0) {
            done++;
        }
        logged = new int[] {why, done, other.hour, other.bits(t -> t.where == 3)};
        if (lives == 1) {
            keep(w);
            w = other;
        }
        return why == 0 ? -1 : done;
    }

    private Line readLogLine(Text text, int lines) {
        Token first = text.next();
        boolean own = first.text.equals("hour") || first.text.equals("coughs");
        if (!own && !first.isName()) {
            throw new Fault(1, first.place);
        }
        String[] who = own ? new String[] {first.text, "-1"} : w.names.getOrDefault(first.text, "mill 0").split(" ");
        if (who[0].equals("mill")) {
            throw new Fault(3, first.place);
        }
        if (lines == 40) {
            throw new Fault(4, first.place);
        }
        int number = Integer.parseInt(who[1]);
        switch (who[0]) {
            case "hour":
                return new Line("hour", -1, text.number(1, 60));
            case "coughs":
                return new Line("coughs", -1, 0);
            case "man":
                text.take("walks");
                return new Line("walks", number, text.number(0, 19));
            default:
                boolean ties = text.peek().text.equals("ties");
                text.take(ties ? "ties" : "looses");
                return new Line(ties ? "ties" : "looses", number, 0);
        }
    }

    private static int live(World other, Line line) {
        int why;
        switch (line.verb) {
            case "ties":
                return other.tie(line.who, 1);
            case "looses":
                why = other.tie(line.who, 0);
                return why == 0 ? 0 : 10 + why;
            case "coughs":
                return other.cough() == 0 ? 0 : 31;
            case "hour":
                if (other.hour + line.number > 1000) {
                    return 41;
                }
                for (int k = 0; k < line.number; k++) {
                    other.pass();
                }
                return 0;
            default:
                if (line.number >= other.cells[other.men.get(line.who)[0]]) {
                    return 29;
                }
                why = whyNoWalk(other, line.who, line.number);
                if (why == 0) {
                    other.walk(line.who, line.number);
                }
                return why == 0 ? 0 : 20 + why;
        }
    }

    int logged(int what) {
        return logged != null && within(what, 0, 3) ? logged[what] : -1;
    }

    int sentence() {
        Text text = new Text(takeTape(), 200);
        fault = 0;
        ones = 0;
        try {
            Condition told = readCond(text, 1);
            if (!text.ended()) {
                throw new Fault(1, text.peek().place);
            }
            sentence = told;
            return ones;
        } catch (Fault f) {
            fault = f.kind;
            return -1 - f.place;
        }
    }

    private Condition readCond(Text text, int within) {
        Condition left = readAll(text, within);
        while (text.peek().text.equals("or")) {
            text.next();
            Condition one = left;
            Condition two = readAll(text, within);
            left = (t, n) -> one.of(t, n) || two.of(t, n);
        }
        return left;
    }

    private Condition readAll(Text text, int within) {
        Condition left = readOne(text, within);
        while (text.peek().text.equals("and")) {
            text.next();
            Condition one = left;
            Condition two = readOne(text, within);
            left = (t, n) -> one.of(t, n) && two.of(t, n);
        }
        return left;
    }

    private Condition readOne(Text text, int within) {
        Token first = text.next();
        if (!Arrays.asList("not", "(", "tied", "inside", "beyond", "lost", "cell", "weight", "colour", "number").contains(first.text)) {
            throw new Fault(1, first.place);
        }
        if (++ones > 20 || within > 8) {
            throw new Fault(4, first.place);
        }
        switch (first.text) {
            case "not":
                Condition one = readOne(text, within + 1);
                return (t, n) -> !one.of(t, n);
            case "(":
                Condition all = readCond(text, within + 1);
                text.take(")");
                return all;
            case "tied":
                return (t, n) -> t.tied == 1;
            case "inside":
                return (t, n) -> t.where == 2;
            case "beyond":
                return (t, n) -> t.where == 1 - t.told;
            case "lost":
                return (t, n) -> t.where == 3;
            default:
                return readCompared(text, first.text);
        }
    }

    private static Condition readCompared(Text text, String what) {
        Token sign = text.next();
        if (!sign.text.matches("[<=>]")) {
            throw new Fault(1, sign.place);
        }
        int number = text.number(0, 999);
        int due = "<=>".indexOf(sign.text) - 1;
        return (t, n) -> {
            int value = switch (what) {
                case "cell" -> t.where == 3 ? 0 : t.cell;
                case "weight" -> t.weight;
                case "colour" -> t.colour;
                default -> n;
            };
            return Integer.compare(value, number) == due;
        };
    }

    int said(int k) {
        if (sentence == null) {
            return -1;
        }
        List<Integer> said = new ArrayList<>();
        for (int t = 0; t < w.things.size(); t++) {
            if (sentence.of(w.things.get(t), t)) {
                said.add(t);
            }
        }
        return k == -1 ? said.size() : within(k, 0, said.size() - 1) ? said.get(k) : -1;
    }

    boolean image(int k) {
        if (!within(k, 0, 1)) {
            return false;
        }
        images[k] = new Image(w.copy(), sentence);
        return true;
    }

    boolean restore(int k) {
        if (!within(k, 0, 1) || images[k] == null) {
            return false;
        }
        w = images[k].world.copy();
        sentence = images[k].sentence;
        past.clear();
        return true;
    }

    int count(int what) {
        return within(what, 0, 7) ? new int[] {w.cells[0], w.cells[1], w.passages.size(), w.things.size(), w.mills.size(),
            w.men.size(), w.whole(), tape.length}[what] : -1;
    }
}
