/** A pump that lifts jokes from deep wells; README.md tells how to use it. */
public final class JokePump {
    public static final int NONE = -1;
    public static final int BAD = -2;
    public static final int STATE = -3;
    public static final int FULL = -4;
    public static final int REFUSED = -5;
    public static final int NOTHING = -6;

    private static final int WELLS = 4;
    private static final int MOST_JOKES = 12;
    private static final int MOST_IN_WELL = 6;
    private static final int DEEPEST = 30;
    private static final int SIGNS = 64;
    private static final int GREATEST_WIT = 9;
    private static final int LONGEST_STROKE = 10;
    private static final int FIRST_STROKE = 3;
    private static final int BIGGEST_BUCKET = 5;
    private static final int FIRST_BUCKET = 2;
    private static final int MOST_DROPS = 9;
    private static final int MOST_GROANS = 50;
    private static final int MOST_GROANS_TO_PUMP = 40;
    private static final int GROANS_A_DROP = 10;
    private static final int REACH_A_GROAN = 10;
    private static final int MOST_STROKES_AT_ONCE = 9;
    private static final int MOST_STROKES_ASKED = 20;
    private static final int MOST_UNDONE = 8;
    private static final int MOST_CHARACTERS = 60;

    // The reasons, by their numbers; 0 stands for none.
    private static final int TOO_MANY = 1;
    private static final int DEPTH_TAKEN = 2;
    private static final int SIGN_KNOWN = 3;
    private static final int SIGN_TAKEN = 4;
    private static final int SO_ALREADY = 5;
    private static final int NO_DROP = 6;
    private static final int FEWER_GROANS = 7;
    private static final int NO_MORE_PUMPING = 8;
    private static final int COMMAND_REFUSED = 9;

    // The kinds of commands of a text.
    private static final int JOKE_COMES = 0;
    private static final int JOKE_PRIMED = 1;
    private static final int JOKE_GOES = 2;
    private static final int GROANS_DRAINED = 3;
    private static final int STROKE_SET = 4;
    private static final int BUCKET_SET = 5;
    private static final int PUMP_MOVED = 6;
    private static final int STROKES_MADE = 7;
    private static final int COMMAND_KINDS = 8;

    private static final int NUMBERS_A_COMMAND = 4;
    // The shortest command has 4 characters, and a ";" stands between two.
    private static final int MOST_COMMANDS = (MOST_CHARACTERS + 1) / 5;
    private static final char A_DIGIT = '#';
    private static final char A_NUMBER = '%';

    private final State now = new State();
    private final State saved = new State();
    private boolean isSaved = false;
    private final History history = new History();
    private final Strip input = new Strip();
    private final Strip line = new Strip();
    private final Reader reader = new Reader();
    private int faultPosition = NONE;
    private int reasonKind = 0;
    private int reasonDetail = 0;
    private int behindKind = 0;
    private int behindDetail = 0;

    public JokePump() {
    }

    // ---- Changes ----

    public int joke(int well, int depth, int sign, int wit) {
        history.prepare(now);
        return keepChange(letCome(well, depth, sign, wit));
    }

    public int prime(int joke) {
        history.prepare(now);
        return keepChange(makePrimed(joke));
    }

    public int drop(int joke) {
        history.prepare(now);
        return keepChange(letGo(joke));
    }

    public int drain(int groans) {
        history.prepare(now);
        return keepChange(drainGroans(groans));
    }

    public int stroke(int length) {
        history.prepare(now);
        return keepChange(setStroke(length));
    }

    public int bucket(int well, int size) {
        history.prepare(now);
        return keepChange(setBucket(well, size));
    }

    public int go(int well) {
        history.prepare(now);
        return keepChange(moveTo(well));
    }

    public int pump(int strokes) {
        history.prepare(now);
        return keepChange(makeStrokes(strokes));
    }

    public int read() {
        int answer = BAD;
        if (reader.isText(input)) {
            history.prepare(now);
            answer = keepChange(doCommands());
        } else {
            faultPosition = reader.end;
        }
        input.clear();
        return answer;
    }

    public int undo() {
        if (history.count == 0) {
            return STATE;
        }
        history.takeBack(now);
        return history.count;
    }

    public int save() {
        State.copy(now, saved);
        isSaved = true;
        return now.jokes.count;
    }

    public int restore() {
        if (!isSaved) {
            return STATE;
        }
        State.copy(saved, now);
        history.forget();
        return now.jokes.count;
    }

    // ---- Jokes and wells ----

    public int jokeOf(int joke, int what) {
        Jokes jokes = now.jokes;
        if (!jokes.has(joke)) {
            return NONE;
        }
        switch (what) {
            case 0: return jokes.wells.at(joke);
            case 1: return jokes.depths.at(joke);
            case 2: return jokes.signs.at(joke);
            case 3: return jokes.wits.at(joke);
            case 4: return jokes.primed.at(joke);
            case 5: return jokes.countWithin(jokes.wells.at(joke), jokes.depths.at(joke) - 1);
            default: return BAD;
        }
    }

    public int wellOf(int well, int what) {
        if (!isWell(well)) {
            return NONE;
        }
        switch (what) {
            case 0: return now.buckets.at(well);
            case 1: return now.jokes.countIn(well);
            case 2: return leastDepth(well);
            case 3: return now.told.countFrom(well);
            default: return BAD;
        }
    }

    public int isKnown(int sign) {
        if (!isWithin(sign, 0, SIGNS - 1)) {
            return NONE;
        }
        return now.told.known.at(sign);
    }

    public int inWell(int well, int place) {
        return isWell(well) ? now.jokes.byDepth(well, place) : NONE;
    }

    public int funniest(int place) {
        for (int joke = 0; joke < now.jokes.count; joke++) {
            if (countFunnier(joke) == place) {
                return joke;
            }
        }
        return NONE;
    }

    public int fullest(int place) {
        for (int well = 0; well < WELLS; well++) {
            if (countFuller(well) == place) {
                return well;
            }
        }
        return NONE;
    }

    public double meanDepth() {
        int count = now.jokes.count;
        return count > 0 ? (double) now.jokes.sumOfDepths() / (double) count : 0.0;
    }

    // ---- Laughs and lifted jokes ----

    public int laughBits(int joke, int groans) {
        if (!now.jokes.has(joke)) {
            return NONE;
        }
        if (!isWithin(groans, 0, MOST_GROANS)) {
            return BAD;
        }
        return bitsOf(now.laughOf(joke, groans));
    }

    public float laughs() {
        return now.told.sum;
    }

    public float laughsAgain() {
        return now.told.sumAgain();
    }

    public int wholeLaughs() {
        return (int) now.told.sum;
    }

    public int liftedOf(int place, int what) {
        Told told = now.told;
        if (!isWithin(place, 0, told.count - 1)) {
            return NONE;
        }
        int index = told.count - 1 - place;
        switch (what) {
            case 0: return told.signs.at(index);
            case 1: return told.wells.at(index);
            case 2: return bitsOf(told.laughAt(index));
            default: return BAD;
        }
    }

    public float knownShare() {
        return (float) now.told.countKnown() / (float) SIGNS;
    }

    // ---- What strokes would bring ----

    public int strokes(int depth) {
        if (!isWithin(depth, 1, DEEPEST)) {
            return BAD;
        }
        int reach = now.reach;
        int count = 0;
        for (int i = 0; i < DEEPEST && reach < depth; i++) {
            reach = State.reachBehind(reach, now.length);
            count++;
        }
        return count;
    }

    public int strokesAgain(int depth) {
        if (!isWithin(depth, 1, DEEPEST)) {
            return BAD;
        }
        int lacking = depth - now.reach;
        if (lacking <= 0 || now.length < 1) {
            return 0;
        }
        return (lacking + now.length - 1) / now.length;
    }

    public int would(int strokes) {
        if (!isWithin(strokes, 0, MOST_STROKES_ASKED)) {
            return BAD;
        }
        int reach = now.reach;
        int groans = now.groans;
        int lifted = 0;
        for (int i = 0; i < strokes && groans <= MOST_GROANS_TO_PUMP; i++) {
            reach = State.reachBehind(reach, now.length);
            groans += State.groansOf(reach);
            int within = now.jokes.countWithin(now.well, reach) - lifted;
            lifted += Math.min(within, now.buckets.at(now.well));
        }
        return lifted;
    }

    public int groansIn(int strokes) {
        if (!isWithin(strokes, 0, MOST_STROKES_ASKED)) {
            return BAD;
        }
        int reach = now.reach;
        int groans = now.groans;
        for (int i = 0; i < strokes && groans <= MOST_GROANS_TO_PUMP; i++) {
            reach = State.reachBehind(reach, now.length);
            groans += State.groansOf(reach);
        }
        return groans;
    }

    public int bestStroke() {
        if (now.jokes.countIn(now.well) == 0) {
            return NOTHING;
        }
        int depth = leastDepth(now.well);
        int best = 1;
        for (int length = 2; length <= LONGEST_STROKE; length++) {
            if (groansToReach(depth, length) < groansToReach(depth, best)) {
                best = length;
            }
        }
        return best;
    }

    // ---- Accounts ----

    public boolean isCounted() {
        boolean areJokesCounted =
            now.came == now.jokes.count + now.told.count + now.went;
        return areJokesCounted && areLaughsAlike() && areStrokesAlike() && areSignsUnknown();
    }

    public int account(int what) {
        switch (what) {
            case 0: return now.jokes.count;
            case 1: return now.well;
            case 2: return now.length;
            case 3: return now.reach;
            case 4: return now.groans;
            case 5: return now.drops;
            case 6: return now.told.count;
            case 7: return now.came;
            case 8: return now.went;
            case 9: return now.strokesMade;
            case 10: return now.drained;
            case 11: return now.jokes.countPrimed();
            case 12: return input.length;
            case 13: return history.count;
            default: return BAD;
        }
    }

    // ---- The line and the input ----

    public int write(int well) {
        if (!isWell(well)) {
            return NONE;
        }
        line.clear();
        line.putNumber(well);
        line.putSign('u');
        line.putNumber(now.buckets.at(well));
        int count = now.jokes.countIn(well);
        for (int place = 0; place < count; place++) {
            putJoke(now.jokes.byDepth(well, place));
        }
        return line.length;
    }

    public int writePump() {
        line.clear();
        line.putSign('@');
        line.putNumber(now.well);
        line.putSign('^');
        line.putNumber(now.length);
        line.putSign('~');
        line.putNumber(now.reach);
        line.putSign('o');
        line.putNumber(now.groans);
        line.putSign('*');
        line.putNumber(now.drops);
        return line.length;
    }

    public int written(int index) {
        return line.signAt(index);
    }

    public int append(char character) {
        if (!isWithin(character, 32, 126)) {
            return BAD;
        }
        if (input.length >= MOST_CHARACTERS) {
            return FULL;
        }
        input.putSign(character);
        return input.length;
    }

    public int fault() {
        return faultPosition == NONE ? STATE : faultPosition;
    }

    public int reason(int depth, boolean isDetail) {
        if (!isWithin(depth, 0, 1)) {
            return BAD;
        }
        if (reasonKind == 0) {
            return STATE;
        }
        if (depth == 0) {
            return isDetail ? reasonDetail : reasonKind;
        }
        if (behindKind == 0) {
            return NOTHING;
        }
        return isDetail ? behindDetail : behindKind;
    }

    // ---- How changes are made: by a call, or by a command of a text ----

    private int letCome(int well, int depth, int sign, int wit) {
        if (!isWell(well)) {
            return NONE;
        }
        if (!isWithin(depth, 1, DEEPEST) || !isWithin(sign, 0, SIGNS - 1)
            || !isWithin(wit, 1, GREATEST_WIT)) {
            return BAD;
        }
        Jokes jokes = now.jokes;
        if (now.told.known.at(sign) != 0) {
            return refuse(SIGN_KNOWN, sign);
        }
        int other = jokes.withSign(sign);
        if (other != NONE) {
            return refuse(SIGN_TAKEN, other);
        }
        other = jokes.atDepth(well, depth);
        if (other != NONE) {
            return refuse(DEPTH_TAKEN, other);
        }
        if (jokes.count >= MOST_JOKES) {
            return refuse(TOO_MANY, jokes.count);
        }
        if (jokes.countIn(well) >= MOST_IN_WELL) {
            return refuse(TOO_MANY, jokes.countIn(well));
        }
        jokes.add(well, depth, sign, wit);
        now.came++;
        return jokes.count - 1;
    }

    private int makePrimed(int joke) {
        if (!now.jokes.has(joke)) {
            return NONE;
        }
        if (now.jokes.primed.at(joke) != 0) {
            return refuse(SO_ALREADY, joke);
        }
        if (now.drops == 0) {
            return refuse(NO_DROP, now.groans);
        }
        now.jokes.primed.put(joke, 1);
        now.drops--;
        return now.drops;
    }

    private int letGo(int joke) {
        if (!now.jokes.has(joke)) {
            return NONE;
        }
        now.jokes.remove(joke);
        now.went++;
        return now.jokes.count;
    }

    private int drainGroans(int groans) {
        if (!isWithin(groans, 1, MOST_GROANS)) {
            return BAD;
        }
        if (now.groans < groans) {
            return refuse(FEWER_GROANS, now.groans);
        }
        now.groans -= groans;
        now.drained += groans;
        now.drops = Math.min(MOST_DROPS, now.drops + groans / GROANS_A_DROP);
        return now.drops;
    }

    private int setStroke(int length) {
        if (!isWithin(length, 1, LONGEST_STROKE)) {
            return BAD;
        }
        if (now.length == length) {
            return refuse(SO_ALREADY, length);
        }
        int before = now.length;
        now.length = length;
        return before;
    }

    private int setBucket(int well, int size) {
        if (!isWell(well)) {
            return NONE;
        }
        if (!isWithin(size, 1, BIGGEST_BUCKET)) {
            return BAD;
        }
        int before = now.buckets.at(well);
        if (before == size) {
            return refuse(SO_ALREADY, well);
        }
        now.buckets.put(well, size);
        return before;
    }

    private int moveTo(int well) {
        if (!isWell(well)) {
            return NONE;
        }
        if (now.well == well) {
            return refuse(SO_ALREADY, well);
        }
        int before = now.well;
        now.well = well;
        now.reach = 0;
        return before;
    }

    private int makeStrokes(int strokes) {
        if (!isWithin(strokes, 1, MOST_STROKES_AT_ONCE)) {
            return BAD;
        }
        if (now.groans > MOST_GROANS_TO_PUMP) {
            return refuse(NO_MORE_PUMPING, now.groans);
        }
        int lifted = 0;
        for (int i = 0; i < strokes && now.groans <= MOST_GROANS_TO_PUMP; i++) {
            lifted += now.makeStroke();
        }
        return lifted;
    }

    /** Counts a change that was prepared among those that can be undone, if it is no error. */
    private int keepChange(int answer) {
        if (answer >= 0) {
            history.keep();
        }
        return answer;
    }

    private int refuse(int kind, int detail) {
        reasonKind = kind;
        reasonDetail = detail;
        behindKind = 0;
        behindDetail = 0;
        return REFUSED;
    }

    // ---- Texts ----

    /** Does all commands, or, if one is refused, none: what those ahead of it did is taken back. */
    private int doCommands() {
        for (int command = 0; command < reader.count; command++) {
            int answer = doCommand(command);
            if (answer < 0) {
                history.dismiss(now);
                return refuseCommand(command, answer == REFUSED);
            }
        }
        return reader.count;
    }

    private int doCommand(int command) {
        int first = reader.numberOf(command, 0);
        int second = reader.numberOf(command, 1);
        switch (reader.kinds.at(command)) {
            case JOKE_COMES:
                return letCome(first, second, reader.numberOf(command, 2), reader.numberOf(command, 3));
            case JOKE_PRIMED: return makePrimed(first);
            case JOKE_GOES: return letGo(first);
            case GROANS_DRAINED: return drainGroans(first);
            case STROKE_SET: return setStroke(first);
            case BUCKET_SET: return setBucket(first, second);
            case PUMP_MOVED: return moveTo(first);
            case STROKES_MADE: return makeStrokes(first);
            default: return BAD;
        }
    }

    /** Refuses a text for a command; a reason of the command itself, just kept, then lies behind. */
    private int refuseCommand(int command, boolean hasReason) {
        int kind = hasReason ? reasonKind : 0;
        int detail = hasReason ? reasonDetail : 0;
        refuse(COMMAND_REFUSED, command);
        behindKind = kind;
        behindDetail = detail;
        return REFUSED;
    }

    // ---- Helpers of the questions ----

    private int leastDepth(int well) {
        int joke = now.jokes.byDepth(well, 0);
        return joke == NONE ? 0 : now.jokes.depths.at(joke);
    }

    private int countFunnier(int joke) {
        int count = 0;
        for (int other = 0; other < now.jokes.count; other++) {
            if (isFunnier(other, joke)) {
                count++;
            }
        }
        return count;
    }

    private boolean isFunnier(int joke, int other) {
        float laugh = now.laughOf(joke, now.groans);
        float otherLaugh = now.laughOf(other, now.groans);
        if (laugh != otherLaugh) {
            return laugh > otherLaugh;
        }
        int depth = now.jokes.depths.at(joke);
        int otherDepth = now.jokes.depths.at(other);
        return depth != otherDepth ? depth < otherDepth : joke < other;
    }

    private int countFuller(int well) {
        int count = 0;
        for (int other = 0; other < WELLS; other++) {
            if (isFuller(other, well)) {
                count++;
            }
        }
        return count;
    }

    private boolean isFuller(int well, int other) {
        int jokes = now.jokes.countIn(well);
        int otherJokes = now.jokes.countIn(other);
        if (jokes != otherJokes) {
            return jokes > otherJokes;
        }
        int size = now.buckets.at(well);
        int otherSize = now.buckets.at(other);
        return size != otherSize ? size > otherSize : well < other;
    }

    /** The groans of strokes of this length, one at least, until the reach is as much as a depth. */
    private int groansToReach(int depth, int length) {
        int reach = State.reachBehind(now.reach, length);
        int groans = State.groansOf(reach);
        for (int i = 0; i < DEEPEST && reach < depth; i++) {
            reach = State.reachBehind(reach, length);
            groans += State.groansOf(reach);
        }
        return groans;
    }

    private boolean areLaughsAlike() {
        return now.told.sum == now.told.sumAgain();
    }

    private boolean areStrokesAlike() {
        for (int depth = 1; depth <= DEEPEST; depth++) {
            if (strokes(depth) != strokesAgain(depth)) {
                return false;
            }
        }
        return true;
    }

    private boolean areSignsUnknown() {
        for (int joke = 0; joke < now.jokes.count; joke++) {
            if (now.told.known.at(now.jokes.signs.at(joke)) != 0) {
                return false;
            }
        }
        return true;
    }

    private void putJoke(int joke) {
        line.putSign(' ');
        line.putNumber(now.jokes.depths.at(joke));
        line.putSign(':');
        line.putNumber(now.jokes.signs.at(joke));
        if (now.jokes.primed.at(joke) != 0) {
            line.putSign('!');
        }
    }

    private static boolean isWell(int well) {
        return isWithin(well, 0, WELLS - 1);
    }

    private static boolean isWithin(int number, int least, int most) {
        return number >= least && number <= most;
    }

    /** The bits of a float of 0 or more, by arithmetic: halving and doubling lose nothing. */
    private static int bitsOf(float number) {
        if (number <= 0f) {
            return 0;
        }
        float significand = number;
        int exponent = 127;
        for (int i = 0; i < 128 && significand >= 2f; i++) {
            significand = significand / 2f;
            exponent++;
        }
        for (int i = 0; i < 126 && significand < 1f; i++) {
            significand = significand * 2f;
            exponent--;
        }
        return (exponent << 23) + (int) ((significand - 1f) * 8388608f);
    }

    // ---- What is held ----

    /** A row of numbers that is safe at every index: beyond its ends it holds nothing, and answers 0. */
    private static final class Row {
        private final int[] cells;

        Row(int length) {
            cells = new int[length > 0 ? length : 0];
        }

        int at(int index) {
            return index >= 0 && index < cells.length ? cells[index] : 0;
        }

        void put(int index, int number) {
            if (index >= 0 && index < cells.length) {
                cells[index] = number;
            }
        }

        /** Takes a number out; the later ones move up. */
        void takeOut(int index) {
            if (index >= 0) {
                for (int i = index; i < cells.length - 1; i++) {
                    cells[i] = cells[i + 1];
                }
            }
        }

        static void copy(Row from, Row to) {
            int length = Math.min(from.cells.length, to.cells.length);
            System.arraycopy(from.cells, 0, to.cells, 0, length);
        }
    }

    /** The jokes that are there, by their numbers. */
    private static final class Jokes {
        private int count = 0;
        private final Row wells = new Row(MOST_JOKES);
        private final Row depths = new Row(MOST_JOKES);
        private final Row signs = new Row(MOST_JOKES);
        private final Row wits = new Row(MOST_JOKES);
        private final Row primed = new Row(MOST_JOKES);

        boolean has(int joke) {
            return joke >= 0 && joke < count;
        }

        void add(int well, int depth, int sign, int wit) {
            if (count < MOST_JOKES) {
                wells.put(count, well);
                depths.put(count, depth);
                signs.put(count, sign);
                wits.put(count, wit);
                primed.put(count, 0);
                count++;
            }
        }

        void remove(int joke) {
            if (has(joke)) {
                wells.takeOut(joke);
                depths.takeOut(joke);
                signs.takeOut(joke);
                wits.takeOut(joke);
                primed.takeOut(joke);
                count--;
            }
        }

        /** The joke with a sign, or NONE. */
        int withSign(int sign) {
            for (int joke = 0; joke < count; joke++) {
                if (signs.at(joke) == sign) {
                    return joke;
                }
            }
            return NONE;
        }

        /** The joke of a well that lies at a depth, or NONE. */
        int atDepth(int well, int depth) {
            for (int joke = 0; joke < count; joke++) {
                if (wells.at(joke) == well && depths.at(joke) == depth) {
                    return joke;
                }
            }
            return NONE;
        }

        int countIn(int well) {
            return countWithin(well, DEEPEST);
        }

        /** How many jokes of a well lie at a depth or less deep. */
        int countWithin(int well, int depth) {
            int within = 0;
            for (int joke = 0; joke < count; joke++) {
                if (wells.at(joke) == well && depths.at(joke) <= depth) {
                    within++;
                }
            }
            return within;
        }

        /** The joke of a well behind so many that are less deep, or NONE. */
        int byDepth(int well, int place) {
            for (int joke = 0; joke < count; joke++) {
                if (wells.at(joke) == well && countWithin(well, depths.at(joke) - 1) == place) {
                    return joke;
                }
            }
            return NONE;
        }

        int countPrimed() {
            int sum = 0;
            for (int joke = 0; joke < count; joke++) {
                sum += primed.at(joke);
            }
            return sum;
        }

        int sumOfDepths() {
            int sum = 0;
            for (int joke = 0; joke < count; joke++) {
                sum += depths.at(joke);
            }
            return sum;
        }

        static void copy(Jokes from, Jokes to) {
            to.count = from.count;
            Row.copy(from.wells, to.wells);
            Row.copy(from.depths, to.depths);
            Row.copy(from.signs, to.signs);
            Row.copy(from.wits, to.wits);
            Row.copy(from.primed, to.primed);
        }
    }

    /** The jokes that were lifted, the first one first; a sign is lifted once, so 64 are room enough. */
    private static final class Told {
        private int count = 0;
        private float sum = 0f;
        private final Row signs = new Row(SIGNS);
        private final Row wells = new Row(SIGNS);
        private final float[] laughs = new float[SIGNS];
        private final Row known = new Row(SIGNS);

        void add(int sign, int well, float laugh) {
            if (count >= 0 && count < laughs.length) {
                signs.put(count, sign);
                wells.put(count, well);
                laughs[count] = laugh;
                known.put(sign, 1);
                sum = sum + laugh;
                count++;
            }
        }

        float laughAt(int index) {
            return index >= 0 && index < laughs.length ? laughs[index] : 0f;
        }

        float sumAgain() {
            float again = 0f;
            for (int index = 0; index < count; index++) {
                again = again + laughAt(index);
            }
            return again;
        }

        int countFrom(int well) {
            int lifted = 0;
            for (int index = 0; index < count; index++) {
                if (wells.at(index) == well) {
                    lifted++;
                }
            }
            return lifted;
        }

        int countKnown() {
            int signsKnown = 0;
            for (int sign = 0; sign < SIGNS; sign++) {
                signsKnown += known.at(sign);
            }
            return signsKnown;
        }

        static void copy(Told from, Told to) {
            to.count = from.count;
            to.sum = from.sum;
            Row.copy(from.signs, to.signs);
            Row.copy(from.wells, to.wells);
            Row.copy(from.known, to.known);
            System.arraycopy(from.laughs, 0, to.laughs, 0, Math.min(from.laughs.length, to.laughs.length));
        }
    }

    /** Everything that can be undone and saved. */
    private static final class State {
        private final Jokes jokes = new Jokes();
        private final Told told = new Told();
        private final Row buckets = new Row(WELLS);
        private int well = 0;
        private int length = FIRST_STROKE;
        private int reach = 0;
        private int groans = 0;
        private int drops = MOST_DROPS;
        private int came = 0;
        private int went = 0;
        private int strokesMade = 0;
        private int drained = 0;

        State() {
            for (int each = 0; each < WELLS; each++) {
                buckets.put(each, FIRST_BUCKET);
            }
        }

        static int reachBehind(int reach, int length) {
            return Math.min(DEEPEST, reach + length);
        }

        static int groansOf(int reach) {
            return 1 + reach / REACH_A_GROAN;
        }

        float laughOf(int joke, int groansBehind) {
            float laugh = (float) jokes.wits.at(joke);
            if (jokes.primed.at(joke) != 0) {
                laugh = laugh * 1.5f;
            }
            return laugh / (1f + (float) groansBehind / 16f);
        }

        /** Makes one stroke, and tells how many jokes it lifts. */
        int makeStroke() {
            reach = reachBehind(reach, length);
            groans += groansOf(reach);
            strokesMade++;
            int count = Math.min(jokes.countWithin(well, reach), buckets.at(well));
            for (int i = 0; i < count; i++) {
                lift(jokes.byDepth(well, 0));
            }
            return count;
        }

        private void lift(int joke) {
            told.add(jokes.signs.at(joke), jokes.wells.at(joke), laughOf(joke, groans));
            jokes.remove(joke);
        }

        static void copy(State from, State to) {
            if (from == null || to == null) {
                return;
            }
            Jokes.copy(from.jokes, to.jokes);
            Told.copy(from.told, to.told);
            Row.copy(from.buckets, to.buckets);
            to.well = from.well;
            to.length = from.length;
            to.reach = from.reach;
            to.groans = from.groans;
            to.drops = from.drops;
            to.came = from.came;
            to.went = from.went;
            to.strokesMade = from.strokesMade;
            to.drained = from.drained;
        }
    }

    /** The states ahead of the latest changes. */
    private static final class History {
        // One more than can be undone: a change that fails must not cost the oldest of them.
        private final State[] slots = new State[MOST_UNDONE + 1];
        private int next = 0;
        private int count = 0;

        History() {
            for (int i = 0; i < slots.length; i++) {
                slots[i] = new State();
            }
        }

        /** Notes the state ahead of a change that may still fail. */
        void prepare(State now) {
            State.copy(now, slot());
        }

        void keep() {
            next = next < MOST_UNDONE ? next + 1 : 0;
            count = Math.min(MOST_UNDONE, count + 1);
        }

        /** Brings back the state ahead of a change that failed. */
        void dismiss(State now) {
            State.copy(slot(), now);
        }

        void takeBack(State now) {
            if (count > 0) {
                next = next > 0 ? next - 1 : MOST_UNDONE;
                count--;
                State.copy(slot(), now);
            }
        }

        void forget() {
            count = 0;
        }

        private State slot() {
            return next >= 0 && next < slots.length ? slots[next] : null;
        }
    }

    /** Characters up to the most that the input has; a line needs 45 at most. */
    private static final class Strip {
        private final char[] signs = new char[MOST_CHARACTERS];
        private int length = 0;

        void clear() {
            length = 0;
        }

        void putSign(char sign) {
            if (length >= 0 && length < signs.length) {
                signs[length] = sign;
                length++;
            }
        }

        /** Puts a number from 0 to 99. */
        void putNumber(int number) {
            if (number >= 10) {
                putSign((char) ('0' + number / 10));
            }
            putSign((char) ('0' + number % 10));
        }

        /** The character there, or NONE. */
        int signAt(int index) {
            return index >= 0 && index < length && index < signs.length ? signs[index] : NONE;
        }
    }

    /** Reads a text, and keeps its commands. */
    private static final class Reader {
        private final Row kinds = new Row(MOST_COMMANDS);
        private final Row numbers = new Row(MOST_COMMANDS * NUMBERS_A_COMMAND);
        private int count = 0;
        // How far the text can be followed: behind the latest command, or where no command goes on.
        private int end = 0;

        /** Whether it is a text; if not, its fault position is the end. */
        boolean isText(Strip text) {
            count = 0;
            end = 0;
            for (int i = 0; i < MOST_COMMANDS; i++) {
                if (!takeCommand(text, end)) {
                    return false;
                }
                if (end == text.length) {
                    return true;
                }
                if (text.signAt(end) != ';') {
                    return false;
                }
                end++;
            }
            return false;
        }

        int numberOf(int command, int place) {
            return numbers.at(command * NUMBERS_A_COMMAND + place);
        }

        private boolean takeCommand(Strip text, int start) {
            for (int kind = 0; kind < COMMAND_KINDS; kind++) {
                if (follow(text, start, formOf(kind))) {
                    kinds.put(count, kind);
                    count++;
                    return true;
                }
            }
            return false;
        }

        /** Follows one form; the form that can be followed farthest tells where the fault is. */
        private boolean follow(Strip text, int start, String form) {
            int position = start;
            int place = 0;
            for (int i = 0; i < form.length(); i++) {
                char wanted = form.charAt(i);
                int length = text.signAt(position) == wanted ? 1 : 0;
                if (wanted == A_DIGIT || wanted == A_NUMBER) {
                    length = takeNumber(text, position, wanted == A_NUMBER, place);
                    place++;
                }
                if (length == 0) {
                    end = Math.max(end, position);
                    return false;
                }
                position += length;
            }
            end = position;
            return true;
        }

        /** Takes a number of 1 digit, or of up to 2, and tells how many digits it has: 0 if it is none. */
        private int takeNumber(Strip text, int position, boolean isLong, int place) {
            int cell = count * NUMBERS_A_COMMAND + place;
            int first = digitAt(text, position);
            int second = digitAt(text, position + 1);
            if (first == NONE) {
                return 0;
            }
            if (!isLong || second == NONE) {
                numbers.put(cell, first);
                return 1;
            }
            numbers.put(cell, first * 10 + second);
            return 2;
        }

        private static int digitAt(Strip text, int position) {
            int sign = text.signAt(position);
            return sign >= '0' && sign <= '9' ? sign - '0' : NONE;
        }

        private static String formOf(int kind) {
            switch (kind) {
                case JOKE_COMES: return "joke # % % #";
                case JOKE_PRIMED: return "prime %";
                case JOKE_GOES: return "drop %";
                case GROANS_DRAINED: return "drain %";
                case STROKE_SET: return "stroke %";
                case BUCKET_SET: return "bucket # #";
                case PUMP_MOVED: return "go #";
                default: return "pump #";
            }
        }
    }
}
