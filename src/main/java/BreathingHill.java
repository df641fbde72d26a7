import java.util.NoSuchElementException;

/**
 * A hill that breathes in and out by HOURS, with a valley at each of its two clefts. The words in
 * capitals are those of the document, which tells what each call of the face answers.
 */
public final class BreathingHill {
    public static final int NONE = -1;

    private static final int TAPE_MOST = 940;
    private static final int LAND_MOST = 900;
    private static final int LOG_MOST = 400;
    private static final int SENTENCE_MOST = 200;

    private static final int PASSAGES_MOST = 4;
    private static final int THINGS_MOST = 8;
    private static final int MILLS_MOST = 4;
    private static final int MEN_MOST = 4;
    private static final int LINES_MOST = 40;
    private static final int ONES_MOST = 20;
    private static final int WITHIN_MOST = 8;
    private static final int PAST_MOST = 8;
    private static final int IMAGES = 2;

    private static final int HOURS_ALL = 1000;
    private static final int HOURS_AT_ONCE = 60;
    private static final int HOURS_AHEAD = 400;
    private static final int WEIGHT_MOST = 9;

    private static final int FAULT_TOKEN = 1;
    private static final int FAULT_NUMBER = 2;
    private static final int FAULT_TOLD = 3;
    private static final int FAULT_MANY = 4;

    private static final int STILL = 0;
    private static final int IN = 1;
    private static final int OUT = 2;

    private static final int INSIDE = 2;
    private static final int LOST = 3;

    private static final int NEVER = -2;
    private static final int NO_LIVES = -1000;

    private final Tape tape = new Tape();
    private final LandReader landReader = new LandReader();
    private final Hill hill = new Hill();
    private final Hill trial = new Hill();
    private final Hill[] past = new Hill[PAST_MOST];
    private int pastCount = 0;
    private final Sentence sentence = new Sentence();
    private final Sentence told = new Sentence();
    private final Hill[] imageHills = new Hill[IMAGES];
    private final Sentence[] imageSentences = new Sentence[IMAGES];
    private final boolean[] imageKept = new boolean[IMAGES];
    private final Log log = new Log();
    private final int[] logged = new int[4];
    private boolean logKnown = false;
    private final Thing letter = new Thing();
    private final int[] prices = new int[2];
    private boolean pricesKnown = false;
    private int faultKind = 0;

    public BreathingHill() {
        for (int k = 0; k < past.length; k++) {
            past[k] = new Hill();
        }
        for (int k = 0; k < IMAGES; k++) {
            imageHills[k] = new Hill();
            imageSentences[k] = new Sentence();
        }
    }

    // ---- the tape and the LAND ----

    public int feed(int a, int b, int c, int d, int e) {
        if (!tape.hasRoomFor(20)) {
            return NONE;
        }
        tape.addNumber(a);
        tape.addNumber(b);
        tape.addNumber(c);
        tape.addNumber(d);
        tape.addNumber(e);
        return tape.size;
    }

    public boolean end(int n) {
        return tape.cutTo(n);
    }

    public int land() {
        int lines = landReader.readLand(tape, trial);
        tape.cutTo(0);
        faultKind = tape.fault;
        if (lines == NONE) {
            return -1 - tape.faultPlace;
        }
        hill.copyFrom(trial);
        sentence.forget();
        pastCount = 0;
        return lines;
    }

    public int fault() {
        return faultKind;
    }

    // ---- what is so ----

    public int thing(int t, int what) throws NoSuchElementException {
        if (!hill.hasThing(t) || what < 0 || what > 7) {
            throw new NoSuchElementException("no such thing");
        }
        Thing it = hill.things[t];
        switch (what) {
            case 0: return it.where;
            case 1: return it.cell;
            case 2: return it.passage;
            case 3: return it.from;
            case 4: return it.colour;
            case 5: return it.tied ? 1 : 0;
            case 6: return it.weight;
            default: return it.timesBeyond;
        }
    }

    public int mill(int m, int what) {
        if (!hill.hasMill(m)) {
            return NONE;
        }
        Mill it = hill.mills[m];
        switch (what) {
            case 0: return it.valley;
            case 1: return it.cell;
            case 2: return it.turned;
            default: return NONE;
        }
    }

    public int man(int m, int what) {
        if (!hill.hasMan(m)) {
            return NONE;
        }
        Man it = hill.men[m];
        switch (what) {
            case 0: return it.valley;
            case 1: return it.cell;
            case 2: return it.walked;
            default: return NONE;
        }
    }

    public int passage(int p, int what) {
        Land here = hill.land;
        if (!here.hasPassage(p)) {
            return NONE;
        }
        switch (what) {
            case 0: return here.lengths[p];
            case 1: return here.wides[p];
            case 2: return here.alters[p];
            case 3: return hill.thingsInPassage(p);
            default: return NONE;
        }
    }

    public int now(int what) {
        switch (what) {
            case 0: return hill.hour;
            case 1: return hill.land.breathOf(hill.hour);
            case 2: return hill.land.airIn(0, hill.hour);
            case 3: return hill.thingsAt(INSIDE);
            case 4: return hill.thingsAt(LOST);
            case 5: return hill.thingsAt(0);
            case 6: return hill.thingsAt(1);
            default: return NONE;
        }
    }

    public int air(int valley, int hour) {
        return isValley(valley) && isHour(hour) ? hill.land.airIn(valley, hour) : NONE;
    }

    public int force(int valley, int cell) {
        return hill.land.hasCell(valley, cell) ? hill.land.forceIn(cell) : NONE;
    }

    public int count(int what) {
        switch (what) {
            case 0: return hill.land.cells[0];
            case 1: return hill.land.cells[1];
            case 2: return hill.land.passageCount;
            case 3: return hill.thingCount;
            case 4: return hill.millCount;
            case 5: return hill.manCount;
            case 6: return hill.land.breathHours();
            case 7: return tape.size;
            default: return NONE;
        }
    }

    // ---- acts, and undoing them ----

    public int tie(int t, int on) {
        if (!hill.hasThing(t) || on < 0 || on > 1) {
            return NONE;
        }
        trial.copyFrom(hill);
        return keptIfDone(on == 1 ? hill.things[t].beTied() : hill.things[t].beLoosed());
    }

    public int walk(int m, int cell) {
        if (!hill.canName(m, cell)) {
            return NONE;
        }
        trial.copyFrom(hill);
        return keptIfDone(hill.walkMan(m, cell));
    }

    public int cough() {
        trial.copyFrom(hill);
        return keptIfDone(hill.coughOut());
    }

    public int hours(int n) {
        if (n < 1 || n > HOURS_AT_ONCE) {
            return NONE;
        }
        trial.copyFrom(hill);
        return keptIfGone(hill.passHours(n));
    }

    public int drawn(int n, int seed) {
        if (n < 1 || n > HOURS_AT_ONCE || hill.thingCount == 0) {
            return NONE;
        }
        trial.copyFrom(hill);
        return keptIfGone(hill.passDrawnHours(n, seed));
    }

    public int undo() {
        if (pastCount < 1) {
            return NONE;
        }
        pastCount--;
        hill.copyFrom(past[pastCount]);
        return pastCount;
    }

    // the trial holds what was so ahead of the act
    private int keptIfDone(int why) {
        if (why == 0) {
            keepPast(trial);
        }
        return why;
    }

    private int keptIfGone(int gone) {
        if (gone > 0) {
            keepPast(trial);
        }
        return gone;
    }

    private void keepPast(Hill asItWas) {
        if (pastCount >= PAST_MOST) {
            Hill oldest = past[0];
            for (int k = 1; k < PAST_MOST; k++) {
                past[k - 1] = past[k];
            }
            past[PAST_MOST - 1] = oldest;
            pastCount = PAST_MOST - 1;
        }
        past[pastCount].copyFrom(asItWas);
        pastCount++;
    }

    // ---- letters ----

    public int letter(int valley, int cell, int weight, int hour) {
        return canLetGo(valley, cell, weight) && isHour(hour) ? hoursOfLetter(valley, cell, weight, hour) : NONE;
    }

    public int heaviest(int valley, int cell, int hour, int n) {
        if (!canLetGo(valley, cell, 1) || !isHour(hour) || n < 1 || n > HOURS_AHEAD) {
            return NONE;
        }
        for (int weight = WEIGHT_MOST; weight >= 1; weight--) {
            int needed = hoursOfLetter(valley, cell, weight, hour);
            if (needed != NONE && needed <= n) {
                return weight;
            }
        }
        return NONE;
    }

    public int best(int valley, int cell, int weight) {
        if (!canLetGo(valley, cell, weight)) {
            return NONE;
        }
        int soonestEnd = HOURS_ALL;
        int bits = 0;
        for (int k = 0; k < 30 && hill.hour + k < HOURS_ALL; k++) {
            int needed = hoursOfLetter(valley, cell, weight, hill.hour + k);
            int letterEnd = hill.hour + k + needed;
            if (needed != NONE && letterEnd <= soonestEnd) {
                bits = letterEnd < soonestEnd ? 1 << k : bits | 1 << k;
                soonestEnd = letterEnd;
            }
        }
        return bits;
    }

    private boolean canLetGo(int valley, int cell, int weight) {
        return hill.land.hasCell(valley, cell) && weight >= 1 && weight <= WEIGHT_MOST;
    }

    private int hoursOfLetter(int valley, int cell, int weight, int hour) {
        letter.put(valley, cell, weight);
        for (int k = 0; k < HOURS_AHEAD && hour + k < HOURS_ALL; k++) {
            letter.passHour(hill.land, hour + k);
            if (letter.timesBeyond > 0) {
                return k + 1;
            }
        }
        return NONE;
    }

    // ---- errands, drying, passages, thieves, prices ----

    public int soonest(int m, int cell) {
        return hill.canName(m, cell) ? hill.men[m].hoursTo(hill.land, cell, hill.hour) : NONE;
    }

    public int reach(int m, int n) {
        if (!hill.hasMan(m) || n < 0 || n > HOURS_AT_ONCE) {
            return NONE;
        }
        int bits = 0;
        Man man = hill.men[m];
        int cells = hill.land.cellsOf(man.valley);
        for (int cell = 0; cell < cells; cell++) {
            int needed = man.hoursTo(hill.land, cell, hill.hour);
            if (needed != NONE && needed <= n) {
                bits |= 1 << cell;
            }
        }
        return bits;
    }

    public int dry(int valley, int cell, int n) {
        if (!hill.land.hasCell(valley, cell) || n < 1 || n > 99) {
            return NONE;
        }
        int sum = 0;
        for (int k = 0; k < HOURS_AHEAD && hill.hour + k < HOURS_ALL; k++) {
            if (hill.land.airIn(valley, hill.hour + k) != STILL) {
                sum += hill.land.forceIn(cell);
            }
            if (sum >= n) {
                return k + 1;
            }
        }
        return NONE;
    }

    public int which() {
        boolean asTold = tape.size == 4 && isValley(tape.byteAt(0));
        int bits = asTold ? 0 : NONE;
        for (int p = 0; asTold && p < hill.land.passageCount; p++) {
            int needed = hoursInside(p, tape.byteAt(0), tape.byteAt(1));
            if (needed == tape.byteAt(2) && letter.colour == tape.byteAt(3) % 8) {
                bits |= 1 << p;
            }
        }
        tape.cutTo(0);
        return bits;
    }

    /**
     * HOURS for which the letter is inside a passage that it went into in an HOUR, till it comes out
     * beyond, altered; NONE: it can't have gone in then, or came out where it went in. Its WEIGHT
     * is none of the tape's, so any passage may have been it, whatever stands ahead of it.
     */
    private int hoursInside(int p, int valley, int hour) {
        if (hill.land.airIn(valley, hour) != IN) {
            return NONE;
        }
        letter.put(valley, 0, 1);
        letter.goInto(p);
        for (int k = 1; hour + k < HOURS_ALL && letter.where == INSIDE; k++) {
            letter.passHour(hill.land, hour + k);
            if (letter.timesBeyond > 0) {
                return k + 1;
            }
        }
        return NONE;
    }

    public int ties(int set, int n) {
        if (set < 0 || set >= 1 << hill.thingCount || n < 1 || n > 200) {
            return NONE;
        }
        trial.copyFrom(hill);
        int ofThese = set & hill.thingsLoose();
        int gone = 0;
        for (int k = 0; k < n; k++) {
            trial.passHours(1);
            gone |= trial.thingsAt(INSIDE) | trial.thingsAt(LOST);
        }
        return gone & ofThese;
    }

    public int turn(int n) {
        if (n < 1 || n > 9) {
            return NONE;
        }
        int turns = 0;
        for (int hour = hill.hour + 1; hour < HOURS_ALL; hour++) {
            if (hill.land.airIn(0, hour) != hill.land.airIn(0, hour - 1)) {
                turns++;
            }
            if (turns == n) {
                return hour;
            }
        }
        return NONE;
    }

    public int guard(int valley) {
        int most = 0;
        int guarded = NONE;
        int cells = hill.land.cellsOf(valley);
        for (int cell = 0; cell < cells; cell++) {
            int near = hill.countLooseNear(valley, cell, 2);
            if (near > most) {
                most = near;
                guarded = cell;
            }
        }
        return guarded;
    }

    public int prices() {
        trial.copyFrom(hill);
        prices[0] = 10;
        prices[1] = 10;
        pricesKnown = true;
        for (int round = 1; round <= 40; round++) {
            int more = Integer.bitCount(trial.thingsAt(0)) - Integer.bitCount(trial.thingsAt(1));
            if (more == 0) {
                return round;
            }
            prices[0] += more > 0 ? -1 : 1;
            prices[1] += more > 0 ? 1 : -1;
            trial.passHours(1);
        }
        return 40;
    }

    public int price(int valley) {
        return pricesKnown && isValley(valley) ? prices[valley] : NONE;
    }

    // ---- things to come ----

    public int later(int t, int n) {
        if (!hill.hasThing(t) || n < 0 || n > HOURS_AHEAD) {
            return NONE;
        }
        trial.copyFrom(hill);
        trial.passHours(n);
        Thing it = trial.things[t];
        return it.where == LOST ? 300 : 100 * it.where + it.cell;
    }

    public int meet(int t, int u) {
        if (!hill.hasThing(t) || !hill.hasThing(u) || t == u) {
            return NEVER;
        }
        trial.copyFrom(hill);
        for (int k = 0; k <= 200; k++) {
            if (trial.things[t].isWith(trial.things[u])) {
                return trial.hour - 1;
            }
            trial.passHours(1);
        }
        return NEVER;
    }

    public int odds(int t, int n, int seed) {
        if (!hill.hasThing(t) || n < 1 || n > 30) {
            return NONE;
        }
        int beyond = 0;
        for (int k = 0; k < n; k++) {
            trial.copyFrom(hill);
            trial.passDrawnHours(50, seed + k);
            if (trial.things[t].isBeyond()) {
                beyond++;
            }
        }
        return beyond;
    }

    // ---- logs, sentences, images ----

    public int log(int lives) {
        if (lives < 0 || lives > 1) {
            return NO_LIVES;
        }
        boolean asTold = log.readLog(tape, hill);
        tape.cutTo(0);
        faultKind = tape.fault;
        if (!asTold) {
            return -2 - tape.faultPlace;
        }
        trial.copyFrom(hill);
        log.liveOn(trial);
        logKnown = true;
        logged[0] = log.why;
        logged[1] = log.done;
        logged[2] = trial.hour;
        logged[3] = trial.thingsAt(LOST);
        if (lives == 1) {
            keepPast(hill);
            hill.copyFrom(trial);
        }
        return log.why == 0 ? NONE : log.done;
    }

    public int logged(int what) {
        return logKnown && what >= 0 && what < logged.length ? logged[what] : NONE;
    }

    public int sentence() {
        boolean asTold = told.readSentence(tape);
        tape.cutTo(0);
        faultKind = tape.fault;
        if (!asTold) {
            return -1 - tape.faultPlace;
        }
        sentence.copyFrom(told);
        return sentence.ones;
    }

    public int said(int k) {
        if (!sentence.isTold() || k < NONE) {
            return NONE;
        }
        int bits = sentence.thingsSaid(hill);
        if (k == NONE) {
            return Integer.bitCount(bits);
        }
        int left = k;
        for (int t = 0; t < hill.thingCount; t++) {
            if ((bits >> t & 1) == 1) {
                if (left == 0) {
                    return t;
                }
                left--;
            }
        }
        return NONE;
    }

    public boolean image(int k) {
        if (k < 0 || k >= IMAGES) {
            return false;
        }
        imageHills[k].copyFrom(hill);
        imageSentences[k].copyFrom(sentence);
        imageKept[k] = true;
        return true;
    }

    public boolean restore(int k) {
        if (k < 0 || k >= IMAGES || !imageKept[k]) {
            return false;
        }
        hill.copyFrom(imageHills[k]);
        sentence.copyFrom(imageSentences[k]);
        pastCount = 0;
        return true;
    }

    private static boolean isValley(int valley) {
        return valley == 0 || valley == 1;
    }

    private static boolean isHour(int hour) {
        return hour >= 0 && hour < HOURS_ALL;
    }

    /** What a text is made of: signs and the words that no NAME may be, by their spelling. */
    private enum Token {
        END(""), BAD(""), DIGITS(""), NAME(""),
        SEMICOLON(";"), LESS("<"), EQUAL("="), GREATER(">"), OPEN("("), CLOSE(")"),
        LONG("long"), BREATH("breath"), FORCE("force"), FADE("fade"), HELD("held"),
        PASSAGE("passage"), THING("thing"), TIED("tied"), MILL("mill"), MAN("man"),
        TIES("ties"), LOOSES("looses"), WALKS("walks"), HOUR("hour"), COUGHS("coughs"),
        OR("or"), AND("and"), NOT("not"), INSIDE("inside"), BEYOND("beyond"), LOST("lost"),
        CELL("cell"), WEIGHT("weight"), COLOUR("colour"), NUMBER("number");

        private final long code;

        Token(String spelling) {
            long spelt = 0;
            for (int k = 0; k < spelling.length(); k++) {
                spelt = spelt * 128 + spelling.charAt(k);
            }
            code = spelt;
        }
    }

    /** The bytes that were fed, and the reading of a text in them TOKEN by TOKEN. */
    private static final class Tape {
        private static final Token[] TOKENS = Token.values();

        private final byte[] bytes = new byte[TAPE_MOST];
        private int size = 0;
        private int limit = 0;
        private int next = 0;
        private Token token = Token.END;
        private int place = 0;
        private int number = 0;
        private long name = 0;
        private int fault = 0;
        private int faultPlace = 0;

        boolean hasRoomFor(int more) {
            return size + more <= bytes.length;
        }

        void addNumber(int four) {
            for (int shift = 24; shift >= 0 && size < bytes.length; shift -= 8) {
                bytes[size] = (byte) (four >>> shift);
                size++;
            }
        }

        boolean cutTo(int n) {
            if (n < 0 || n > size) {
                return false;
            }
            size = n;
            return true;
        }

        int byteAt(int k) {
            return k >= 0 && k < bytes.length ? bytes[k] & 255 : 0;
        }

        void beginText(int most) {
            limit = most;
            next = 0;
            fault = 0;
            faultPlace = 0;
            readToken();
        }

        void readToken() {
            while (next < size && isBlank(bytes[next])) {
                next++;
            }
            place = next;
            if (size > limit && next >= limit) {
                // a text that is too long is at FAULT there, even if only blanks are too many
                place = limit;
                token = Token.BAD;
                return;
            }
            if (next >= size) {
                token = Token.END;
                return;
            }
            int digits = 0;
            number = 0;
            name = 0;
            while (next < size && isLetterOrDigit(bytes[next])) {
                digits += bytes[next] <= '9' ? 1 : 0;
                number = number * 10 + bytes[next] - '0';
                name = name * 128 + bytes[next];
                next++;
            }
            int run = next - place;
            if (run == 0) {
                token = tokenSpelt(bytes[next], Token.BAD);
                next++;
            } else if (digits == 0 && run <= 7) {
                token = tokenSpelt(name, Token.NAME);
            } else {
                token = digits == run && run <= 3 ? Token.DIGITS : Token.BAD;
            }
        }

        private static Token tokenSpelt(long code, Token otherwise) {
            for (int k = 0; k < TOKENS.length && code != 0; k++) {
                if (TOKENS[k].code == code) {
                    return TOKENS[k];
                }
            }
            return otherwise;
        }

        private static boolean isBlank(int sign) {
            return sign == 32 || sign == 10;
        }

        private static boolean isLetterOrDigit(int sign) {
            return sign >= 'a' && sign <= 'z' || sign >= '0' && sign <= '9';
        }

        /** Tells a FAULT at the TOKEN that was read last; always false, for the reader to hand on. */
        boolean refuse(int kind) {
            fault = kind;
            faultPlace = place;
            return false;
        }

        boolean take(Token due) {
            if (token != due) {
                return refuse(FAULT_TOKEN);
            }
            readToken();
            return true;
        }

        /** Puts a NUMBER into a row. */
        boolean takeNumber(int least, int most, int[] row, int k) {
            if (token != Token.DIGITS) {
                return refuse(FAULT_TOKEN);
            }
            if (number < least || number > most) {
                return refuse(FAULT_NUMBER);
            }
            if (k >= 0 && k < row.length) {
                row[k] = number;
            }
            readToken();
            return true;
        }
    }

    /** What a LAND tells that never changes: the valleys' CELLS, the BREATH, the FORCE, passages. */
    private static final class Land {
        private final int[] cells = {10, 10};
        private final int[] breath = {5, 1, 5, 1};
        private int force = 4;
        private int fade = 20;
        private int held = NONE;
        private int passageCount = 0;
        private final int[] lengths = new int[PASSAGES_MOST];
        private final int[] wides = new int[PASSAGES_MOST];
        private final int[] alters = new int[PASSAGES_MOST];

        void makeEmpty() {
            cells[0] = 10;
            cells[1] = 10;
            breath[0] = 5;
            breath[1] = 1;
            breath[2] = 5;
            breath[3] = 1;
            force = 4;
            fade = 20;
            held = NONE;
            passageCount = 0;
        }

        void copyFrom(Land other) {
            cells[0] = other.cells[0];
            cells[1] = other.cells[1];
            for (int k = 0; k < breath.length; k++) {
                breath[k] = other.breath[k];
            }
            force = other.force;
            fade = other.fade;
            held = other.held;
            passageCount = other.passageCount;
            for (int p = 0; p < PASSAGES_MOST; p++) {
                lengths[p] = other.lengths[p];
                wides[p] = other.wides[p];
                alters[p] = other.alters[p];
            }
        }

        int cellsOf(int valley) {
            if (valley == 0) {
                return cells[0];
            }
            return valley == 1 ? cells[1] : 0;
        }

        boolean hasCell(int valley, int cell) {
            return cell >= 0 && cell < cellsOf(valley);
        }

        boolean hasPassage(int p) {
            return p >= 0 && p < passageCount;
        }

        int breathHours() {
            return breath[0] + breath[1] + breath[2] + breath[3];
        }

        int breathOf(int hour) {
            int whole = breathHours();
            return whole < 1 ? 0 : hour / whole;
        }

        int airIn(int valley, int hour) {
            int whole = breathHours();
            if (!isHour(hour) || whole < 1 || hour / whole == held) {
                return STILL;
            }
            int into = hour % whole;
            int outAt = breath[0] + breath[1];
            if (into < breath[0]) {
                return valley == 0 ? IN : OUT;
            }
            if (into >= outAt && into < outAt + breath[2]) {
                return valley == 0 ? OUT : IN;
            }
            return STILL;
        }

        int forceIn(int cell) {
            int left = fade < 1 ? force : force - cell / fade;
            return left > 0 ? left : 0;
        }

        int passageFor(int weight) {
            for (int p = 0; p < passageCount; p++) {
                if (wides[p] >= weight) {
                    return p;
                }
            }
            return NONE;
        }
    }

    /** A THING, or a LETTER, which goes as a THING does. */
    private static final class Thing {
        private long name = 0;
        private int home = 0;
        private int weight = 1;
        private int where = 0;
        private int cell = 0;
        private int passage = NONE;
        private int from = NONE;
        private int colour = 0;
        private boolean tied = false;
        private int timesBeyond = 0;

        void put(int valley, int atCell, int itsWeight) {
            home = valley;
            weight = itsWeight;
            colour = 0;
            tied = false;
            timesBeyond = 0;
            comeOut(valley);
            cell = atCell;
        }

        void copyFrom(Thing other) {
            name = other.name;
            home = other.home;
            weight = other.weight;
            where = other.where;
            cell = other.cell;
            passage = other.passage;
            from = other.from;
            colour = other.colour;
            tied = other.tied;
            timesBeyond = other.timesBeyond;
        }

        boolean isLoose() {
            return isValley(where) && !tied;
        }

        boolean isBeyond() {
            return isValley(where) && where != home;
        }

        boolean isWith(Thing other) {
            return isValley(where) && where == other.where && cell == other.cell;
        }

        int beTied() {
            if (where == LOST) {
                return 1;
            }
            if (where == INSIDE) {
                return 2;
            }
            if (tied) {
                return 3;
            }
            tied = true;
            return 0;
        }

        int beLoosed() {
            if (where == LOST) {
                return 1;
            }
            if (!tied) {
                return 2;
            }
            tied = false;
            return 0;
        }

        void goInto(int p) {
            from = where;
            where = INSIDE;
            passage = p;
            cell = 1;
        }

        void comeOut(int valley) {
            where = valley;
            cell = 0;
            passage = NONE;
            from = NONE;
        }

        void passHour(Land land, int hour) {
            if (where == LOST || tied) {
                return;
            }
            int air = land.airIn(where == INSIDE ? from : where, hour);
            if (air == STILL) {
                return;
            }
            if (where == INSIDE) {
                goInside(land, air);
            } else if (air == OUT) {
                beCarriedOut(land);
            } else {
                beCarriedIn(land);
            }
        }

        private void goInside(Land land, int air) {
            cell += air == IN ? 1 : -1;
            if (cell <= 0) {
                comeOut(from);
            } else if (land.hasPassage(passage) && cell >= land.lengths[passage]) {
                colour = (colour + land.alters[passage]) % 8;
                timesBeyond++;
                comeOut(1 - from);
            }
        }

        private void beCarriedOut(Land land) {
            cell += weight < 1 ? 0 : land.forceIn(cell) / weight;
            if (cell >= land.cellsOf(where)) {
                where = LOST;
                cell = NONE;
            }
        }

        private void beCarriedIn(Land land) {
            int carried = weight < 1 ? 0 : land.forceIn(cell) / weight;
            if (cell > 0) {
                cell = Math.max(0, cell - carried);
                return;
            }
            int p = land.passageFor(weight);
            if (carried >= 1 && p != NONE) {
                goInto(p);
            }
        }
    }

    private static final class Mill {
        private long name = 0;
        private int valley = 0;
        private int cell = 0;
        private int turned = 0;

        void copyFrom(Mill other) {
            name = other.name;
            valley = other.valley;
            cell = other.cell;
            turned = other.turned;
        }

        void passHour(Land land, int hour) {
            if (land.airIn(valley, hour) != STILL && land.forceIn(cell) >= 1) {
                turned++;
            }
        }
    }

    private static final class Man {
        private long name = 0;
        private int valley = 0;
        private int cell = 0;
        private int walked = 0;

        void copyFrom(Man other) {
            name = other.name;
            valley = other.valley;
            cell = other.cell;
            walked = other.walked;
        }

        void walkOneHour(Land land, int goal, int hour) {
            cell = cellAfter(land, cell, goal, hour);
            walked++;
        }

        /** HOURS till he is at a CELL; NONE: it would be above HOUR 1000. */
        int hoursTo(Land land, int goal, int hour) {
            int at = cell;
            for (int then = hour; then <= HOURS_ALL; then++) {
                if (at == goal) {
                    return then - hour;
                }
                at = cellAfter(land, at, goal, then);
            }
            return NONE;
        }

        private int cellAfter(Land land, int at, int goal, int hour) {
            int air = land.airIn(valley, hour);
            int way = goal > at ? OUT : IN;
            int cells = 1;
            if (air == way) {
                cells = Math.min(2, Math.abs(goal - at));
            } else if (air != STILL && land.forceIn(at) >= 4) {
                cells = 0;
            }
            return way == OUT ? at + cells : at - cells;
        }
    }

    /** A LAND and all that is so in it. */
    private static final class Hill {
        private final Land land = new Land();
        private final Thing[] things = new Thing[THINGS_MOST];
        private final Mill[] mills = new Mill[MILLS_MOST];
        private final Man[] men = new Man[MEN_MOST];
        private int thingCount = 0;
        private int millCount = 0;
        private int manCount = 0;
        private int hour = 0;

        Hill() {
            for (int t = 0; t < THINGS_MOST; t++) {
                things[t] = new Thing();
            }
            for (int m = 0; m < MILLS_MOST; m++) {
                mills[m] = new Mill();
            }
            for (int m = 0; m < MEN_MOST; m++) {
                men[m] = new Man();
            }
        }

        void makeEmpty() {
            land.makeEmpty();
            thingCount = 0;
            millCount = 0;
            manCount = 0;
            hour = 0;
        }

        void copyFrom(Hill other) {
            land.copyFrom(other.land);
            thingCount = other.thingCount;
            millCount = other.millCount;
            manCount = other.manCount;
            hour = other.hour;
            for (int t = 0; t < thingCount; t++) {
                things[t].copyFrom(other.things[t]);
            }
            for (int m = 0; m < millCount; m++) {
                mills[m].copyFrom(other.mills[m]);
            }
            for (int m = 0; m < manCount; m++) {
                men[m].copyFrom(other.men[m]);
            }
        }

        boolean hasThing(int t) {
            return t >= 0 && t < thingCount;
        }

        boolean hasMill(int m) {
            return m >= 0 && m < millCount;
        }

        boolean hasMan(int m) {
            return m >= 0 && m < manCount;
        }

        /** Whether there is such a man, and such a CELL in his valley. */
        boolean canName(int m, int cell) {
            return hasMan(m) && land.hasCell(men[m].valley, cell);
        }

        int thingNamed(long name) {
            for (int t = 0; t < thingCount; t++) {
                if (things[t].name == name) {
                    return t;
                }
            }
            return NONE;
        }

        int manNamed(long name) {
            for (int m = 0; m < manCount; m++) {
                if (men[m].name == name) {
                    return m;
                }
            }
            return NONE;
        }

        boolean isTold(long name) {
            for (int m = 0; m < millCount; m++) {
                if (mills[m].name == name) {
                    return true;
                }
            }
            return thingNamed(name) != NONE || manNamed(name) != NONE;
        }

        int thingsAt(int where) {
            int bits = 0;
            for (int t = 0; t < thingCount; t++) {
                if (things[t].where == where) {
                    bits |= 1 << t;
                }
            }
            return bits;
        }

        int thingsInPassage(int p) {
            int bits = 0;
            for (int t = 0; t < thingCount; t++) {
                if (things[t].passage == p) {
                    bits |= 1 << t;
                }
            }
            return bits;
        }

        int thingsLoose() {
            int bits = 0;
            for (int t = 0; t < thingCount; t++) {
                if (things[t].isLoose()) {
                    bits |= 1 << t;
                }
            }
            return bits;
        }

        int countLooseNear(int valley, int cell, int away) {
            int near = 0;
            for (int t = 0; t < thingCount; t++) {
                Thing it = things[t];
                if (it.where == valley && it.isLoose() && Math.abs(it.cell - cell) <= away) {
                    near++;
                }
            }
            return near;
        }

        /** Lets as many of n HOURS go by as there are left: how many did. */
        int passHours(int n) {
            int gone = 0;
            while (gone < n && hour < HOURS_ALL) {
                passOneHour();
                gone++;
            }
            return gone;
        }

        private void passOneHour() {
            for (int t = 0; t < thingCount; t++) {
                things[t].passHour(land, hour);
            }
            for (int m = 0; m < millCount; m++) {
                mills[m].passHour(land, hour);
            }
            hour++;
        }

        int walkMan(int m, int goal) {
            if (!canName(m, goal)) {
                return NONE;
            }
            Man man = men[m];
            if (man.cell == goal) {
                return 1;
            }
            int needed = man.hoursTo(land, goal, hour);
            if (needed == NONE) {
                return 2;
            }
            for (int k = 0; k < needed; k++) {
                man.walkOneHour(land, goal, hour);
                passOneHour();
            }
            return 0;
        }

        int coughOut() {
            int inside = thingsAt(INSIDE);
            for (int t = 0; t < thingCount; t++) {
                if (things[t].where == INSIDE) {
                    things[t].comeOut(0);
                }
            }
            return inside == 0 ? 1 : 0;
        }

        int passDrawnHours(int n, int seed) {
            int x = seed;
            int gone = 0;
            while (gone < n && hour < HOURS_ALL) {
                x = nextDraw(x);
                if (drawOf(20, x) == 0) {
                    x = nextDraw(x);
                    looseOrTie(drawOf(thingCount, x));
                }
                x = nextDraw(x);
                if (drawOf(30, x) == 0) {
                    coughOut();
                }
                passOneHour();
                gone++;
            }
            return gone;
        }

        private void looseOrTie(int t) {
            if (hasThing(t) && things[t].beLoosed() != 0) {
                things[t].beTied();
            }
        }

        private static int nextDraw(int x) {
            return x * 1103515245 + 12345;
        }

        private static int drawOf(int n, int x) {
            return n < 1 ? 0 : (x >>> 8) % n;
        }
    }

    /** The reading of a LAND. */
    private static final class LandReader {
        private final int[] row = new int[4];
        private final Token[] once = new Token[5];
        private int onceCount = 0;

        /** How many LINES there are; NONE: a FAULT. */
        int readLand(Tape tape, Hill hill) {
            hill.makeEmpty();
            onceCount = 0;
            tape.beginText(LAND_MOST);
            for (int lines = 0; lines < LAND_MOST; lines++) {
                if (tape.token == Token.END) {
                    return lines;
                }
                if (!readLine(tape, hill) || !tape.take(Token.SEMICOLON)) {
                    return NONE;
                }
            }
            return NONE;
        }

        private boolean readLine(Tape tape, Hill hill) {
            Token first = tape.token;
            if (first == Token.PASSAGE) {
                return readPassage(tape, hill.land);
            }
            if (first == Token.THING) {
                return readThing(tape, hill);
            }
            if (first == Token.MILL) {
                return readMill(tape, hill);
            }
            if (first == Token.MAN) {
                return readMan(tape, hill);
            }
            if (first == Token.LONG) {
                return readLong(tape, hill);
            }
            if (first == Token.BREATH) {
                return readBreath(tape, hill.land);
            }
            return readSetting(tape, hill.land);
        }

        private boolean readSetting(Tape tape, Land land) {
            Token first = tape.token;
            if (first == Token.FORCE) {
                return readForce(tape, land);
            }
            if (first == Token.FADE) {
                return readFade(tape, land);
            }
            if (first == Token.HELD) {
                return readHeld(tape, land);
            }
            return tape.refuse(FAULT_TOKEN);
        }

        /** Begins a LINE that may be told only once. */
        private boolean beginOnce(Tape tape) {
            for (int k = 0; k < onceCount; k++) {
                if (once[k] == tape.token) {
                    return tape.refuse(FAULT_TOLD);
                }
            }
            if (onceCount < once.length) {
                once[onceCount] = tape.token;
                onceCount++;
            }
            tape.readToken();
            return true;
        }

        private boolean readLong(Tape tape, Hill hill) {
            if (hill.thingCount + hill.millCount + hill.manCount > 0) {
                return tape.refuse(FAULT_TOLD);
            }
            int[] cells = hill.land.cells;
            return beginOnce(tape) && tape.takeNumber(1, 20, cells, 0) && tape.takeNumber(1, 20, cells, 1);
        }

        private boolean readBreath(Tape tape, Land land) {
            return beginOnce(tape)
                && tape.takeNumber(1, 12, land.breath, 0) && tape.takeNumber(0, 12, land.breath, 1)
                && tape.takeNumber(1, 12, land.breath, 2) && tape.takeNumber(0, 12, land.breath, 3);
        }

        private boolean readForce(Tape tape, Land land) {
            if (!beginOnce(tape) || !tape.takeNumber(1, 9, row, 0)) {
                return false;
            }
            land.force = row[0];
            return true;
        }

        private boolean readFade(Tape tape, Land land) {
            if (!beginOnce(tape) || !tape.takeNumber(1, 20, row, 0)) {
                return false;
            }
            land.fade = row[0];
            return true;
        }

        private boolean readHeld(Tape tape, Land land) {
            if (!beginOnce(tape) || !tape.takeNumber(0, 99, row, 0)) {
                return false;
            }
            land.held = row[0];
            return true;
        }

        private boolean readPassage(Tape tape, Land land) {
            int p = land.passageCount;
            if (p >= PASSAGES_MOST) {
                return tape.refuse(FAULT_MANY);
            }
            tape.readToken();
            land.passageCount = p + 1;
            return tape.takeNumber(2, 9, land.lengths, p) && tape.takeNumber(1, 9, land.wides, p)
                && tape.takeNumber(0, 7, land.alters, p);
        }

        private boolean readThing(Tape tape, Hill hill) {
            if (hill.thingCount >= THINGS_MOST) {
                return tape.refuse(FAULT_MANY);
            }
            Thing thing = hill.things[hill.thingCount];
            tape.readToken();
            thing.name = tape.name;
            if (!readNameAndCell(tape, hill) || !tape.takeNumber(1, WEIGHT_MOST, row, 2)
                || !tape.takeNumber(0, 7, row, 3)) {
                return false;
            }
            thing.put(row[0], row[1], row[2]);
            thing.colour = row[3];
            thing.tied = tape.token == Token.TIED;
            if (thing.tied) {
                tape.readToken();
            }
            hill.thingCount++;
            return true;
        }

        private boolean readMill(Tape tape, Hill hill) {
            if (hill.millCount >= MILLS_MOST) {
                return tape.refuse(FAULT_MANY);
            }
            Mill mill = hill.mills[hill.millCount];
            tape.readToken();
            mill.name = tape.name;
            if (!readNameAndCell(tape, hill)) {
                return false;
            }
            mill.valley = row[0];
            mill.cell = row[1];
            mill.turned = 0;
            hill.millCount++;
            return true;
        }

        private boolean readMan(Tape tape, Hill hill) {
            if (hill.manCount >= MEN_MOST) {
                return tape.refuse(FAULT_MANY);
            }
            Man man = hill.men[hill.manCount];
            tape.readToken();
            man.name = tape.name;
            if (!readNameAndCell(tape, hill)) {
                return false;
            }
            man.valley = row[0];
            man.cell = row[1];
            man.walked = 0;
            hill.manCount++;
            return true;
        }

        /** NAME VALLEY CELL, the latter two into the row. */
        private boolean readNameAndCell(Tape tape, Hill hill) {
            if (tape.token != Token.NAME) {
                return tape.refuse(FAULT_TOKEN);
            }
            if (hill.isTold(tape.name)) {
                return tape.refuse(FAULT_TOLD);
            }
            tape.readToken();
            if (!tape.takeNumber(0, 1, row, 0)) {
                return false;
            }
            return tape.takeNumber(0, hill.land.cellsOf(row[0]) - 1, row, 1);
        }
    }

    /** The LINES of a LOG, and what came of them when they were lived. */
    private static final class Log {
        private final Token[] verbs = new Token[LINES_MOST];
        private final int[] whose = new int[LINES_MOST];
        private final int[] numbers = new int[LINES_MOST];
        private int lines = 0;
        private int why = 0;
        private int done = 0;

        boolean readLog(Tape tape, Hill hill) {
            lines = 0;
            tape.beginText(LOG_MOST);
            for (int k = 0; k <= LINES_MOST; k++) {
                if (tape.token == Token.END) {
                    return true;
                }
                if (!readLine(tape, hill) || !tape.take(Token.SEMICOLON)) {
                    return false;
                }
            }
            return false;
        }

        private boolean readLine(Tape tape, Hill hill) {
            Token first = tape.token;
            if (first != Token.NAME && first != Token.HOUR && first != Token.COUGHS) {
                return tape.refuse(FAULT_TOKEN);
            }
            int thing = first == Token.NAME ? hill.thingNamed(tape.name) : NONE;
            int man = first == Token.NAME ? hill.manNamed(tape.name) : NONE;
            if (first == Token.NAME && thing == NONE && man == NONE) {
                return tape.refuse(FAULT_TOLD);
            }
            if (lines >= LINES_MOST) {
                return tape.refuse(FAULT_MANY);
            }
            tape.readToken();
            verbs[lines] = first == Token.NAME ? tape.token : first;
            whose[lines] = Math.max(thing, man);
            lines++;
            if (thing != NONE) {
                return tape.token == Token.LOOSES ? tape.take(Token.LOOSES) : tape.take(Token.TIES);
            }
            if (man != NONE) {
                return tape.take(Token.WALKS) && tape.takeNumber(0, 19, numbers, lines - 1);
            }
            return first == Token.COUGHS || tape.takeNumber(1, HOURS_AT_ONCE, numbers, lines - 1);
        }

        /** Lives the LINES, ending ahead of one that is WRONG. */
        void liveOn(Hill hill) {
            done = 0;
            why = 0;
            while (done < lines && why == 0) {
                why = liveLine(hill, verbs[done], whose[done], numbers[done]);
                if (why == 0) {
                    done++;
                }
            }
        }

        private static int liveLine(Hill hill, Token verb, int who, int number) {
            if (verb == Token.WALKS) {
                return hill.canName(who, number) ? reason(20, hill.walkMan(who, number)) : 29;
            }
            if (verb == Token.COUGHS) {
                return reason(30, hill.coughOut());
            }
            if (verb == Token.HOUR) {
                if (hill.hour + number > HOURS_ALL) {
                    return 41;
                }
                hill.passHours(number);
                return 0;
            }
            if (!hill.hasThing(who)) {
                return 0;
            }
            return verb == Token.TIES ? hill.things[who].beTied() : reason(10, hill.things[who].beLoosed());
        }

        private static int reason(int more, int reasonAlone) {
            return reasonAlone == 0 ? 0 : more + reasonAlone;
        }
    }

    /** A SENTENCE, kept with each 'not', 'and', 'or' behind what it joins. */
    private static final class Sentence {
        private static final int STEPS_MOST = 2 * ONES_MOST;

        private final Token[] steps = new Token[STEPS_MOST];
        private final Token[] signs = new Token[STEPS_MOST];
        private final int[] numbers = new int[STEPS_MOST];
        private final int[] sets = new int[STEPS_MOST];
        private int size = 0;
        private int ones = 0;

        void forget() {
            size = 0;
            ones = 0;
        }

        boolean isTold() {
            return size > 0;
        }

        void copyFrom(Sentence other) {
            size = other.size;
            ones = other.ones;
            for (int k = 0; k < STEPS_MOST; k++) {
                steps[k] = other.steps[k];
                signs[k] = other.signs[k];
                numbers[k] = other.numbers[k];
            }
        }

        boolean readSentence(Tape tape) {
            forget();
            tape.beginText(SENTENCE_MOST);
            return readCond(tape, 1) && (tape.token == Token.END || tape.refuse(FAULT_TOKEN));
        }

        private boolean readCond(Tape tape, int within) {
            if (!readAll(tape, within)) {
                return false;
            }
            for (int k = 0; k < ONES_MOST && tape.token == Token.OR; k++) {
                tape.readToken();
                if (!readAll(tape, within) || !addStep(Token.OR, Token.END)) {
                    return false;
                }
            }
            return true;
        }

        private boolean readAll(Tape tape, int within) {
            if (!readOne(tape, within)) {
                return false;
            }
            for (int k = 0; k < ONES_MOST && tape.token == Token.AND; k++) {
                tape.readToken();
                if (!readOne(tape, within) || !addStep(Token.AND, Token.END)) {
                    return false;
                }
            }
            return true;
        }

        private boolean readOne(Tape tape, int within) {
            Token first = tape.token;
            if (first != Token.NOT && first != Token.OPEN && !isPlain(first) && !isCompared(first)) {
                return tape.refuse(FAULT_TOKEN);
            }
            if (ones >= ONES_MOST || within > WITHIN_MOST) {
                return tape.refuse(FAULT_MANY);
            }
            ones++;
            tape.readToken();
            if (first == Token.OPEN) {
                return readCond(tape, within + 1) && tape.take(Token.CLOSE);
            }
            if (first == Token.NOT) {
                return readOne(tape, within + 1) && addStep(Token.NOT, Token.END);
            }
            return isPlain(first) ? addStep(first, Token.END) : readCompared(tape, first);
        }

        private boolean readCompared(Tape tape, Token what) {
            Token sign = tape.token;
            if (sign != Token.LESS && sign != Token.EQUAL && sign != Token.GREATER) {
                return tape.refuse(FAULT_TOKEN);
            }
            tape.readToken();
            return tape.takeNumber(0, 999, numbers, size) && addStep(what, sign);
        }

        private boolean addStep(Token step, Token sign) {
            if (size >= STEPS_MOST) {
                return false;
            }
            steps[size] = step;
            signs[size] = sign;
            size++;
            return true;
        }

        private static boolean isPlain(Token token) {
            return token == Token.TIED || token == Token.INSIDE || token == Token.BEYOND || token == Token.LOST;
        }

        private static boolean isCompared(Token token) {
            return token == Token.CELL || token == Token.WEIGHT || token == Token.COLOUR || token == Token.NUMBER;
        }

        /** THINGS of which it may be said, as bits: worked out for all of them at once. */
        int thingsSaid(Hill hill) {
            int height = 0;
            int all = (1 << hill.thingCount) - 1;
            for (int k = 0; k < size; k++) {
                Token step = steps[k];
                if (step == Token.NOT && height >= 1) {
                    sets[height - 1] = all & ~sets[height - 1];
                } else if (step == Token.AND && height >= 2) {
                    height--;
                    sets[height - 1] &= sets[height];
                } else if (step == Token.OR && height >= 2) {
                    height--;
                    sets[height - 1] |= sets[height];
                } else if (height < STEPS_MOST) {
                    sets[height] = thingsThat(hill, step, signs[k], numbers[k]);
                    height++;
                }
            }
            return sets[0];
        }

        private static int thingsThat(Hill hill, Token what, Token sign, int number) {
            int bits = 0;
            for (int t = 0; t < hill.thingCount; t++) {
                Thing thing = hill.things[t];
                boolean so = isPlain(what) ? isSo(thing, what) : isSo(valueOf(thing, t, what), sign, number);
                if (so) {
                    bits |= 1 << t;
                }
            }
            return bits;
        }

        private static boolean isSo(Thing thing, Token what) {
            if (what == Token.TIED) {
                return thing.tied;
            }
            if (what == Token.BEYOND) {
                return thing.isBeyond();
            }
            return thing.where == (what == Token.INSIDE ? INSIDE : LOST);
        }

        private static boolean isSo(int value, Token sign, int number) {
            if (sign == Token.LESS) {
                return value < number;
            }
            return sign == Token.EQUAL ? value == number : value > number;
        }

        private static int valueOf(Thing thing, int t, Token what) {
            if (what == Token.CELL) {
                return thing.where == LOST ? 0 : thing.cell;
            }
            if (what == Token.WEIGHT) {
                return thing.weight;
            }
            return what == Token.COLOUR ? thing.colour : t;
        }
    }
}
