import java.util.ArrayDeque;
import java.util.ArrayList;
import java.util.Arrays;
import java.util.Comparator;
import java.util.Deque;
import java.util.List;
import java.util.TreeSet;
import java.util.regex.Matcher;
import java.util.regex.Pattern;

/**
 * The document once more, written in another way than the program: lists, sorting, a regular
 * expression for texts, and a whole new copy of everything ahead of each change.
 */
final class PumpModel {
    static final int NONE = -1;
    static final int BAD = -2;
    static final int STATE = -3;
    static final int FULL = -4;
    static final int REFUSED = -5;
    static final int NOTHING = -6;

    private static final String COMMAND = "(?:joke \\d \\d{1,2} \\d{1,2} \\d"
        + "|(?:prime|drop|drain) \\d{1,2}|stroke \\d{1,2}|bucket \\d \\d|go \\d|pump \\d)";
    private static final Pattern TEXT = Pattern.compile(COMMAND + "(?:;" + COMMAND + ")*");

    record Joke(int well, int depth, int sign, int wit, boolean isPrimed) {
        float laugh(int groans) {
            float laugh = wit;
            if (isPrimed) {
                laugh *= 1.5f;
            }
            return laugh / (1f + groans / 16f);
        }
    }

    record Laugh(int sign, int well, float size) {
    }

    private static final class World {
        List<Joke> jokes = new ArrayList<>();
        List<Laugh> told = new ArrayList<>();
        TreeSet<Integer> known = new TreeSet<>();
        int[] buckets = {2, 2, 2, 2};
        int well = 0;
        int length = 3;
        int reach = 0;
        int groans = 0;
        int drops = 9;
        int came = 0;
        int went = 0;
        int strokes = 0;
        int drained = 0;

        World copy() {
            World other = new World();
            other.jokes.addAll(jokes);
            other.told.addAll(told);
            other.known.addAll(known);
            other.buckets = buckets.clone();
            other.well = well;
            other.length = length;
            other.reach = reach;
            other.groans = groans;
            other.drops = drops;
            other.came = came;
            other.went = went;
            other.strokes = strokes;
            other.drained = drained;
            return other;
        }

        List<Joke> of(int place) {
            List<Joke> there = new ArrayList<>();
            for (Joke joke : jokes) {
                if (joke.well() == place) {
                    there.add(joke);
                }
            }
            there.sort(Comparator.comparingInt(Joke::depth));
            return there;
        }

        int stroke() {
            reach += length;
            if (reach > 30) {
                reach = 30;
            }
            groans = groans + 1 + Math.floorDiv(reach, 10);
            strokes++;
            int lifted = 0;
            for (Joke joke : of(well)) {
                if (joke.depth() <= reach && lifted < buckets[well]) {
                    lifted++;
                    told.add(new Laugh(joke.sign(), well, joke.laugh(groans)));
                    known.add(joke.sign());
                    jokes.remove(joke);
                }
            }
            return lifted;
        }
    }

    private World world = new World();
    private World kept = null;
    private final Deque<World> earlier = new ArrayDeque<>();
    private String input = "";
    private String line = "";
    private int fault = -1;
    private int[] latest = null;
    private int[] behind = null;

    // ---- Changes ----

    int change(String name, int... numbers) {
        World ahead = world.copy();
        int answer = doIt(name, numbers);
        if (answer >= 0) {
            remember(ahead);
        }
        return answer;
    }

    private void remember(World ahead) {
        earlier.addLast(ahead);
        while (earlier.size() > 8) {
            earlier.removeFirst();
        }
    }

    private int refuse(int kind, int detail) {
        latest = new int[] {kind, detail};
        behind = null;
        return REFUSED;
    }

    private int doIt(String name, int[] n) {
        switch (name) {
            case "joke": return come(n[0], n[1], n[2], n[3]);
            case "prime": return prime(n[0]);
            case "drop": return drop(n[0]);
            case "drain": return drain(n[0]);
            case "stroke": return stroke(n[0]);
            case "bucket": return bucket(n[0], n[1]);
            case "go": return go(n[0]);
            case "pump": return pump(n[0]);
            default: throw new IllegalArgumentException(name);
        }
    }

    private int come(int well, int depth, int sign, int wit) {
        if (well < 0 || well > 3) {
            return NONE;
        }
        if (depth < 1 || depth > 30 || sign < 0 || sign > 63 || wit < 1 || wit > 9) {
            return BAD;
        }
        if (world.known.contains(sign)) {
            return refuse(3, sign);
        }
        for (Joke joke : world.jokes) {
            if (joke.sign() == sign) {
                return refuse(4, world.jokes.indexOf(joke));
            }
        }
        for (Joke joke : world.of(well)) {
            if (joke.depth() == depth) {
                return refuse(2, world.jokes.indexOf(joke));
            }
        }
        if (world.jokes.size() == 12) {
            return refuse(1, 12);
        }
        if (world.of(well).size() == 6) {
            return refuse(1, 6);
        }
        world.jokes.add(new Joke(well, depth, sign, wit, false));
        world.came++;
        return world.jokes.size() - 1;
    }

    private boolean isThere(int joke) {
        return joke >= 0 && joke < world.jokes.size();
    }

    private int prime(int number) {
        if (!isThere(number)) {
            return NONE;
        }
        Joke joke = world.jokes.get(number);
        if (joke.isPrimed()) {
            return refuse(5, number);
        }
        if (world.drops == 0) {
            return refuse(6, world.groans);
        }
        world.jokes.set(number, new Joke(joke.well(), joke.depth(), joke.sign(), joke.wit(), true));
        return --world.drops;
    }

    private int drop(int joke) {
        if (!isThere(joke)) {
            return NONE;
        }
        world.jokes.remove(joke);
        world.went++;
        return world.jokes.size();
    }

    private int drain(int groans) {
        if (groans < 1 || groans > 50) {
            return BAD;
        }
        if (groans > world.groans) {
            return refuse(7, world.groans);
        }
        world.groans -= groans;
        world.drained += groans;
        for (int full = 10; full <= groans && world.drops < 9; full += 10) {
            world.drops++;
        }
        return world.drops;
    }

    private int stroke(int length) {
        if (length < 1 || length > 10) {
            return BAD;
        }
        if (length == world.length) {
            return refuse(5, length);
        }
        int before = world.length;
        world.length = length;
        return before;
    }

    private int bucket(int well, int size) {
        if (well < 0 || well > 3) {
            return NONE;
        }
        if (size < 1 || size > 5) {
            return BAD;
        }
        if (world.buckets[well] == size) {
            return refuse(5, well);
        }
        int before = world.buckets[well];
        world.buckets[well] = size;
        return before;
    }

    private int go(int well) {
        if (well < 0 || well > 3) {
            return NONE;
        }
        if (world.well == well) {
            return refuse(5, well);
        }
        int before = world.well;
        world.well = well;
        world.reach = 0;
        return before;
    }

    private int pump(int strokes) {
        if (strokes < 1 || strokes > 9) {
            return BAD;
        }
        if (world.groans > 40) {
            return refuse(8, world.groans);
        }
        int lifted = 0;
        for (int i = 0; i < strokes; i++) {
            if (world.groans <= 40) {
                lifted += world.stroke();
            }
        }
        return lifted;
    }

    int undo() {
        if (earlier.isEmpty()) {
            return STATE;
        }
        world = earlier.removeLast();
        return earlier.size();
    }

    int save() {
        kept = world.copy();
        return world.jokes.size();
    }

    int restore() {
        if (kept == null) {
            return STATE;
        }
        world = kept.copy();
        earlier.clear();
        return world.jokes.size();
    }

    // ---- Texts ----

    int append(char character) {
        if (character < 32 || character > 126) {
            return BAD;
        }
        if (input.length() == 60) {
            return FULL;
        }
        input += character;
        return input.length();
    }

    static boolean isText(String text) {
        return TEXT.matcher(text).matches();
    }

    /** The length of the longest beginning that some text goes on from. */
    static int faultOf(String text) {
        for (int length = 1; length <= text.length(); length++) {
            Matcher matcher = TEXT.matcher(text.substring(0, length));
            if (!matcher.matches() && !matcher.hitEnd()) {
                return length - 1;
            }
        }
        return text.length();
    }

    int read() {
        String text = input;
        input = "";
        if (!isText(text)) {
            fault = faultOf(text);
            return BAD;
        }
        World ahead = world.copy();
        String[] commands = text.split(";");
        for (int i = 0; i < commands.length; i++) {
            String[] words = commands[i].split(" ");
            int[] numbers = new int[words.length - 1];
            for (int k = 0; k < numbers.length; k++) {
                numbers[k] = Integer.parseInt(words[k + 1]);
            }
            int answer = doIt(words[0], numbers);
            if (answer < 0) {
                behind = answer == REFUSED ? latest : null;
                latest = new int[] {9, i};
                world = ahead;
                return REFUSED;
            }
        }
        remember(ahead);
        return commands.length;
    }

    int fault() {
        return fault < 0 ? STATE : fault;
    }

    int reason(int depth, boolean isDetail) {
        if (depth != 0 && depth != 1) {
            return BAD;
        }
        if (latest == null) {
            return STATE;
        }
        int[] asked = depth == 0 ? latest : behind;
        if (asked == null) {
            return NOTHING;
        }
        return asked[isDetail ? 1 : 0];
    }

    // ---- Questions ----

    int jokeOf(int number, int what) {
        if (!isThere(number)) {
            return NONE;
        }
        Joke joke = world.jokes.get(number);
        int[] all = {joke.well(), joke.depth(), joke.sign(), joke.wit(), joke.isPrimed() ? 1 : 0,
            world.of(joke.well()).indexOf(joke)};
        return what < 0 || what >= all.length ? BAD : all[what];
    }

    int wellOf(int well, int what) {
        if (well < 0 || well > 3) {
            return NONE;
        }
        List<Joke> there = world.of(well);
        int lifted = (int) world.told.stream().filter(laugh -> laugh.well() == well).count();
        int[] all = {world.buckets[well], there.size(), there.isEmpty() ? 0 : there.get(0).depth(), lifted};
        return what < 0 || what >= all.length ? BAD : all[what];
    }

    int isKnown(int sign) {
        if (sign < 0 || sign > 63) {
            return NONE;
        }
        return world.known.contains(sign) ? 1 : 0;
    }

    int laughBits(int joke, int groans) {
        if (!isThere(joke)) {
            return NONE;
        }
        if (groans < 0 || groans > 50) {
            return BAD;
        }
        return Float.floatToIntBits(world.jokes.get(joke).laugh(groans));
    }

    float laughs() {
        float sum = 0f;
        for (Laugh laugh : world.told) {
            sum += laugh.size();
        }
        return sum;
    }

    int wholeLaughs() {
        return (int) Math.floor(laughs());
    }

    int liftedOf(int place, int what) {
        if (place < 0 || place >= world.told.size()) {
            return NONE;
        }
        Laugh laugh = world.told.get(world.told.size() - 1 - place);
        int[] all = {laugh.sign(), laugh.well(), Float.floatToIntBits(laugh.size())};
        return what < 0 || what >= all.length ? BAD : all[what];
    }

    int strokes(int depth) {
        if (depth < 1 || depth > 30) {
            return BAD;
        }
        int count = 0;
        while (world.reach + count * world.length < depth) {
            count++;
        }
        return count;
    }

    private World behind(int strokes) {
        World then = world.copy();
        for (int i = 0; i < strokes; i++) {
            if (then.groans <= 40) {
                then.stroke();
            }
        }
        return then;
    }

    int would(int strokes) {
        return strokes < 0 || strokes > 20 ? BAD : behind(strokes).told.size() - world.told.size();
    }

    int groansIn(int strokes) {
        return strokes < 0 || strokes > 20 ? BAD : behind(strokes).groans;
    }

    int bestStroke() {
        if (world.of(world.well).isEmpty()) {
            return NOTHING;
        }
        int best = 0;
        int fewest = Integer.MAX_VALUE;
        for (int length = 1; length <= 10; length++) {
            World then = world.copy();
            then.length = length;
            int before = then.told.size();
            while (then.told.size() == before) {
                then.stroke();
            }
            if (then.groans < fewest) {
                fewest = then.groans;
                best = length;
            }
        }
        return best;
    }

    int funniest(int place) {
        List<Joke> order = new ArrayList<>(world.jokes);
        order.sort(Comparator.comparingDouble((Joke joke) -> -joke.laugh(world.groans))
            .thenComparingInt(Joke::depth));
        return place < 0 || place >= order.size() ? NONE : world.jokes.indexOf(order.get(place));
    }

    int inWell(int well, int place) {
        List<Joke> there = world.of(well);
        return place < 0 || place >= there.size() ? NONE : world.jokes.indexOf(there.get(place));
    }

    int fullest(int place) {
        List<Integer> order = new ArrayList<>(Arrays.asList(0, 1, 2, 3));
        order.sort(Comparator.comparingInt((Integer well) -> -world.of(well).size())
            .thenComparingInt(well -> -world.buckets[well]));
        return place < 0 || place > 3 ? NONE : order.get(place);
    }

    double meanDepth() {
        if (world.jokes.isEmpty()) {
            return 0.0;
        }
        return (double) world.jokes.stream().mapToInt(Joke::depth).sum() / (double) world.jokes.size();
    }

    float knownShare() {
        return (float) world.known.size() / 64f;
    }

    int account(int what) {
        int primed = (int) world.jokes.stream().filter(Joke::isPrimed).count();
        int[] all = {world.jokes.size(), world.well, world.length, world.reach, world.groans, world.drops,
            world.told.size(), world.came, world.went, world.strokes, world.drained, primed,
            input.length(), earlier.size()};
        return what < 0 || what >= all.length ? BAD : all[what];
    }

    int write(int well) {
        if (well < 0 || well > 3) {
            return NONE;
        }
        line = well + "u" + world.buckets[well];
        for (Joke joke : world.of(well)) {
            line += " " + joke.depth() + ":" + joke.sign() + (joke.isPrimed() ? "!" : "");
        }
        return line.length();
    }

    int writePump() {
        line = "@" + world.well + "^" + world.length + "~" + world.reach + "o" + world.groans
            + "*" + world.drops;
        return line.length();
    }

    int written(int index) {
        return index < 0 || index >= line.length() ? NONE : line.charAt(index);
    }
}
