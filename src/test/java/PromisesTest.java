/** Each promise of the document by itself: ordinary inputs, edges and wrong inputs. */
public final class PromisesTest extends PumpCheck {
    public static void main(String[] args) {
        newObject();
        joke();
        jokeRefused();
        jokeRefusedForNumbers();
        prime();
        drop();
        drain();
        stroke();
        bucket();
        go();
        pump();
        pumpLifts();
        jokeOf();
        wellOf();
        isKnown();
        laughBits();
        laughs();
        liftedOf();
        strokes();
        would();
        bestStroke();
        funniest();
        inWell();
        fullest();
        isCounted();
        meanDepthAndKnownShare();
        account();
        write();
        writePump();
        append();
        read();
        readRefused();
        readIsOneChange();
        faults();
        reason();
        undo();
        undoAll();
        saveAndRestore();
        laterCalls();
        DUE.finish("PromisesTest");
    }

    // ---- Helpers ----

    /** The jokes 0 to 11, all wells 3 each, with the signs 0 to 11. */
    private static JokePump fullPump() {
        JokePump pump = new JokePump();
        for (int joke = 0; joke < 12; joke++) {
            is("joke " + joke, pump.joke(joke % 4, 1 + joke, joke, 1 + joke % 9), joke);
        }
        return pump;
    }

    // ---- Promise 1 ----

    private static void newObject() {
        JokePump pump = new JokePump();
        int[] accounts = {0, 0, 3, 0, 0, 9, 0, 0, 0, 0, 0, 0, 0, 0};
        for (int what = 0; what < accounts.length; what++) {
            is("new: account " + what, pump.account(what), accounts[what]);
        }
        for (int well = 0; well < 4; well++) {
            is("new: bucket", pump.wellOf(well, 0), 2);
            is("new: jokes", pump.wellOf(well, 1), 0);
            is("new: least deep", pump.wellOf(well, 2), 0);
            is("new: lifted", pump.wellOf(well, 3), 0);
        }
        for (int sign = 0; sign < 64; sign++) {
            is("new: known", pump.isKnown(sign), 0);
        }
        is("new: written", pump.written(0), NONE);
        is("new: fault", pump.fault(), STATE);
        is("new: reason", pump.reason(0, false), STATE);
        is("new: undo", pump.undo(), STATE);
        is("new: restore", pump.restore(), STATE);
        DUE.is("new: isCounted", pump.isCounted(), true);
    }

    // ---- Promise 2 ----

    private static void joke() {
        JokePump pump = new JokePump();
        is("first joke", pump.joke(0, 1, 0, 1), 0);
        is("second joke", pump.joke(3, 30, 63, 9), 1);
        is("no well -1", pump.joke(-1, 5, 5, 5), NONE);
        is("no well 4", pump.joke(4, 5, 5, 5), NONE);
        is("no well, ahead of all", pump.joke(GREATEST, 0, 64, 0), NONE);
        int[][] wrong = {{0, 5, 5}, {31, 5, 5}, {5, -1, 5}, {5, 64, 5}, {5, 5, 0}, {5, 5, 10},
            {LEAST, 5, 5}, {5, GREATEST, 5}, {5, 5, LEAST}, {1, 0, 0}, {0, 0, 1}};
        for (int[] numbers : wrong) {
            is("joke out of range", pump.joke(0, numbers[0], numbers[1], numbers[2]), BAD);
        }
        is("nothing came", pump.account(0), 2);
        is("came", pump.account(7), 2);
        is("changes", pump.account(13), 2);
        is("same depth in another well", pump.joke(1, 1, 1, 1), 2);
        is("no reason", pump.reason(0, false), STATE);
    }

    private static void jokeRefused() {
        JokePump pump = new JokePump();
        pump.joke(0, 3, 7, 1);
        pump.pump(1);
        is("known", pump.isKnown(7), 1);
        pump.joke(0, 9, 8, 1);
        pump.joke(1, 9, 9, 1);
        isRefused("known sign", pump, pump.joke(0, 9, 7, 2), 3, 7);
        isRefused("sign of another, ahead of the depth", pump, pump.joke(0, 9, 9, 2), 4, 1);
        isRefused("depth", pump, pump.joke(1, 9, 10, 2), 2, 1);
        isRefused("depth", pump, pump.joke(0, 9, 10, 2), 2, 0);
        is("jokes behind the refused ones", pump.account(0), 2);
        is("came behind the refused ones", pump.account(7), 3);
    }

    private static void jokeRefusedForNumbers() {
        JokePump pump = new JokePump();
        for (int i = 0; i < 6; i++) {
            is("six in a well", pump.joke(2, 10 + i, i, 1), i);
        }
        isRefused("depth ahead of six", pump, pump.joke(2, 12, 20, 1), 2, 2);
        isRefused("six in the well", pump, pump.joke(2, 1, 20, 1), 1, 6);
        for (int i = 6; i < 12; i++) {
            is("twelve", pump.joke(3, i, i, 1), i);
        }
        isRefused("twelve ahead of six", pump, pump.joke(2, 1, 20, 1), 1, 12);
        isRefused("twelve", pump, pump.joke(0, 1, 20, 1), 1, 12);
        isRefused("depth ahead of twelve", pump, pump.joke(3, 7, 20, 1), 2, 7);
        isRefused("sign ahead of depth", pump, pump.joke(3, 7, 4, 1), 4, 4);
        is("a place again", pump.drop(0), 11);
        is("in another well", pump.joke(0, 1, 20, 1), 11);
    }

    // ---- Promise 3 ----

    private static void prime() {
        JokePump pump = fullPump();
        is("no joke -1", pump.prime(-1), NONE);
        is("no joke 12", pump.prime(12), NONE);
        for (int joke = 0; joke < 8; joke++) {
            is("prime", pump.prime(joke), 8 - joke);
            is("primed", pump.jokeOf(joke, 4), 1);
        }
        isRefused("primed", pump, pump.prime(7), 5, 7);
        pump.pump(3);
        int groans = pump.account(4);
        is("lifted", pump.account(6), 3);
        is("last drop", pump.prime(6), 0);
        isRefused("no drop", pump, pump.prime(7), 6, groans);
        isRefused("primed ahead of no drop", pump, pump.prime(6), 5, 6);
        is("primed jokes", pump.account(11), 7);
        is("still no joke", pump.prime(9), NONE);
    }

    // ---- Promise 4 ----

    private static void drop() {
        JokePump pump = fullPump();
        pump.prime(5);
        is("no joke -1", pump.drop(-1), NONE);
        is("no joke 12", pump.drop(12), NONE);
        is("drop", pump.drop(3), 11);
        is("went", pump.account(8), 1);
        is("came", pump.account(7), 12);
        is("earlier stays", pump.jokeOf(2, 2), 2);
        for (int what = 0; what <= 4; what++) {
            int[] fifth = {1, 6, 5, 6, 1};
            is("later moves", pump.jokeOf(4, what), fifth[what]);
        }
        is("the last number", pump.jokeOf(10, 2), 11);
        is("no number more", pump.jokeOf(11, 2), NONE);
        is("not known", pump.isKnown(3), 0);
        is("comes again", pump.joke(3, 4, 3, 4), 11);
        is("not primed", pump.jokeOf(11, 4), 0);
        pump.prime(11);
        is("the last one goes, primed", pump.drop(11), 11);
        is("comes again", pump.joke(3, 4, 3, 4), 11);
        is("not primed behind a primed one", pump.jokeOf(11, 4), 0);
        pump.undo();
        pump.undo();
        pump.undo();
        is("primed goes", pump.drop(4), 11);
        is("primed keeps its drop", pump.account(5), 8);
        for (int left = 10; left >= 0; left--) {
            is("drop all", pump.drop(0), left);
        }
        is("none more", pump.drop(0), NONE);
        is("went", pump.account(8), 13);
    }

    // ---- Promise 5 ----

    private static void drain() {
        JokePump pump = new JokePump();
        is("0", pump.drain(0), BAD);
        is("51", pump.drain(51), BAD);
        is("least", pump.drain(LEAST), BAD);
        isRefused("fewer", pump, pump.drain(50), 7, 0);
        isRefused("fewer", pump, pump.drain(1), 7, 0);
        for (int joke = 0; joke < 6; joke++) {
            pump.joke(3, 20 + joke, joke, 1);
            pump.prime(joke);
        }
        is("drops", pump.account(5), 3);
        pump.stroke(10);
        pump.pump(9);
        pump.pump(2);
        is("groans", pump.account(4), 41);
        isRefused("fewer", pump, pump.drain(42), 7, 41);
        is("9 bring nothing", pump.drain(9), 3);
        is("groans", pump.account(4), 32);
        is("1 more brings nothing", pump.drain(1), 3);
        is("19 bring 1", pump.drain(19), 4);
        is("groans", pump.account(4), 12);
        is("10 bring 1", pump.drain(10), 5);
        is("all of them", pump.drain(2), 5);
        is("groans", pump.account(4), 0);
        is("drained", pump.account(10), 41);
        pump.pump(9);
        is("30 bring 3", pump.drain(30), 8);
        pump.pump(9);
        is("20 bring 1 up to 9", pump.drain(20), 9);
        is("drained", pump.account(10), 91);
    }

    // ---- Promise 6 ----

    private static void stroke() {
        JokePump pump = new JokePump();
        is("0", pump.stroke(0), BAD);
        is("11", pump.stroke(11), BAD);
        is("greatest", pump.stroke(GREATEST), BAD);
        isRefused("so already", pump, pump.stroke(3), 5, 3);
        is("1", pump.stroke(1), 3);
        is("10", pump.stroke(10), 1);
        isRefused("so already", pump, pump.stroke(10), 5, 10);
        is("length", pump.account(2), 10);
        is("changes", pump.account(13), 2);
    }

    // ---- Promise 7 ----

    private static void bucket() {
        JokePump pump = new JokePump();
        is("no well -1", pump.bucket(-1, 3), NONE);
        is("no well 4", pump.bucket(4, 0), NONE);
        is("0", pump.bucket(0, 0), BAD);
        is("6", pump.bucket(3, 6), BAD);
        isRefused("so already", pump, pump.bucket(3, 2), 5, 3);
        is("1", pump.bucket(3, 1), 2);
        is("5", pump.bucket(3, 5), 1);
        is("others", pump.wellOf(2, 0), 2);
        is("size", pump.wellOf(3, 0), 5);
        isRefused("so already", pump, pump.bucket(0, 2), 5, 0);
    }

    // ---- Promise 8 ----

    private static void go() {
        JokePump pump = new JokePump();
        is("no well -1", pump.go(-1), NONE);
        is("no well 4", pump.go(4), NONE);
        pump.pump(4);
        is("reach", pump.account(3), 12);
        isRefused("so already", pump, pump.go(0), 5, 0);
        is("reach stays", pump.account(3), 12);
        is("to 3", pump.go(3), 0);
        is("reach", pump.account(3), 0);
        is("groans stay", pump.account(4), 5);
        isRefused("so already", pump, pump.go(3), 5, 3);
        is("to 1", pump.go(1), 3);
        is("stands", pump.account(1), 1);
    }

    // ---- Promise 9 ----

    private static void pump() {
        JokePump pump = new JokePump();
        is("0", pump.pump(0), BAD);
        is("10", pump.pump(10), BAD);
        is("least", pump.pump(LEAST), BAD);
        int[] groans = {1, 2, 3, 5, 7, 9, 12, 15, 18, 22, 26, 30, 34, 38, 42};
        for (int i = 0; i < groans.length; i++) {
            is("stroke", pump.pump(1), 0);
            is("groans", pump.account(4), groans[i]);
            is("reach", pump.account(3), Math.min(30, 3 * (i + 1)));
        }
        isRefused("no more", pump, pump.pump(9), 8, 42);
        is("out of range ahead of no more", pump.pump(10), BAD);
        is("strokes", pump.account(9), 15);
        pump.drain(2);
        is("40 groans pump on, but once", pump.pump(9), 0);
        is("strokes", pump.account(9), 16);
        is("groans", pump.account(4), 44);
        isRefused("no more", pump, pump.pump(1), 8, 44);
        pump.drain(3);
        isRefused("41 groans", pump, pump.pump(1), 8, 41);
        pump.go(1);
        isRefused("41 groans at another well", pump, pump.pump(1), 8, 41);
    }

    private static void pumpLifts() {
        JokePump pump = new JokePump();
        pump.joke(0, 5, 50, 1);
        pump.joke(0, 4, 40, 1);
        pump.joke(0, 6, 60, 1);
        pump.joke(0, 7, 7, 1);
        pump.joke(1, 1, 1, 1);
        is("not yet", pump.pump(1), 0);
        is("at the reach, as many as the bucket holds", pump.pump(1), 2);
        is("the deepest is the latest", pump.liftedOf(0, 0), 50);
        is("the least deep first", pump.liftedOf(1, 0), 40);
        is("the others stay", pump.jokeOf(0, 2), 60);
        is("the others stay", pump.jokeOf(2, 2), 1);
        is("behind the next stroke", pump.pump(1), 2);
        is("none more", pump.pump(1), 0);
        is("other wells stay", pump.account(0), 1);
        is("lifted", pump.account(6), 4);
        is("from the well", pump.wellOf(0, 3), 4);
        is("not from another", pump.wellOf(1, 3), 0);
        pump.joke(0, 30, 30, 1);
        pump.joke(0, 1, 2, 1);
        is("what comes within the reach is lifted by the next stroke", pump.pump(1), 1);
        is("at once lies the deepest", pump.pump(5), 1);
        is("30 deep", pump.liftedOf(0, 0), 30);
    }

    // ---- Promises 10 to 12 ----

    private static void jokeOf() {
        JokePump pump = new JokePump();
        is("no joke", pump.jokeOf(0, 0), NONE);
        is("no joke ahead of what", pump.jokeOf(0, 6), NONE);
        pump.joke(2, 20, 63, 9);
        pump.joke(2, 30, 1, 1);
        pump.joke(2, 10, 0, 2);
        pump.joke(1, 5, 5, 5);
        pump.prime(0);
        int[][] all = {{2, 20, 63, 9, 1, 1}, {2, 30, 1, 1, 0, 2}, {2, 10, 0, 2, 0, 0}, {1, 5, 5, 5, 0, 0}};
        for (int joke = 0; joke < 4; joke++) {
            for (int what = 0; what <= 5; what++) {
                is("jokeOf " + joke + " " + what, pump.jokeOf(joke, what), all[joke][what]);
            }
        }
        is("what -1", pump.jokeOf(0, -1), BAD);
        is("what 6", pump.jokeOf(3, 6), BAD);
        is("no joke -1", pump.jokeOf(-1, 0), NONE);
        is("no joke 4", pump.jokeOf(4, 0), NONE);
    }

    private static void wellOf() {
        JokePump pump = new JokePump();
        pump.joke(1, 20, 3, 1);
        pump.joke(1, 3, 4, 1);
        pump.bucket(1, 4);
        is("bucket", pump.wellOf(1, 0), 4);
        is("jokes", pump.wellOf(1, 1), 2);
        is("least deep", pump.wellOf(1, 2), 3);
        is("lifted", pump.wellOf(1, 3), 0);
        pump.go(1);
        pump.pump(1);
        is("jokes", pump.wellOf(1, 1), 1);
        is("least deep", pump.wellOf(1, 2), 20);
        is("lifted", pump.wellOf(1, 3), 1);
        pump.drop(0);
        is("least deep without one", pump.wellOf(1, 2), 0);
        is("dropped is not lifted", pump.wellOf(1, 3), 1);
        is("what -1", pump.wellOf(1, -1), BAD);
        is("what 4", pump.wellOf(1, 4), BAD);
        is("no well -1", pump.wellOf(-1, 0), NONE);
        is("no well ahead of what", pump.wellOf(4, 4), NONE);
    }

    private static void isKnown() {
        JokePump pump = new JokePump();
        pump.joke(0, 1, 0, 1);
        pump.joke(0, 2, 63, 1);
        is("not yet", pump.isKnown(0), 0);
        pump.pump(1);
        is("0", pump.isKnown(0), 1);
        is("63", pump.isKnown(63), 1);
        is("another", pump.isKnown(1), 0);
        is("no sign -1", pump.isKnown(-1), NONE);
        is("no sign 64", pump.isKnown(64), NONE);
    }

    // ---- Promises 13 to 17 ----

    private static void laughBits() {
        for (int wit = 1; wit <= 9; wit++) {
            JokePump pump = made("joke 0 1 0 " + (10 - wit) + ";joke 1 1 1 " + wit);
            isLaughs(pump, (float) wit);
            does(pump, "prime 1");
            isLaughs(pump, (float) wit * 1.5f);
            is("groans -1", pump.laughBits(1, -1), BAD);
            is("groans 51", pump.laughBits(1, 51), BAD);
            is("no joke -1", pump.laughBits(-1, 0), NONE);
            is("no joke ahead of groans", pump.laughBits(2, 51), NONE);
        }
    }

    private static void isLaughs(JokePump pump, float laugh) {
        for (int groans = 0; groans <= 50; groans++) {
            float due = laugh / (1f + (float) groans / 16f);
            is("bits of " + due, pump.laughBits(1, groans), Float.floatToIntBits(due));
        }
    }

    private static void laughs() {
        JokePump pump = new JokePump();
        pump.joke(0, 1, 1, 9);
        pump.joke(0, 2, 2, 7);
        pump.joke(0, 3, 3, 4);
        pump.prime(1);
        pump.pump(1);
        float sum = 0f + 9f / 1.0625f;
        sum = sum + 10.5f / 1.0625f;
        DUE.is("laughs", pump.laughs(), sum);
        DUE.is("laughsAgain", pump.laughsAgain(), sum);
        is("wholeLaughs", pump.wholeLaughs(), 18);
        pump.pump(1);
        sum = sum + 4f / 1.125f;
        DUE.is("laughs", pump.laughs(), sum);
        DUE.is("laughsAgain", pump.laughsAgain(), sum);
        is("wholeLaughs", pump.wholeLaughs(), 21);
        pump.undo();
        is("wholeLaughs undone", pump.wholeLaughs(), 18);
    }

    private static void liftedOf() {
        JokePump pump = new JokePump();
        is("nothing lifted", pump.liftedOf(0, 0), NONE);
        pump.joke(0, 3, 9, 9);
        pump.joke(2, 1, 0, 6);
        pump.joke(2, 2, 63, 6);
        pump.prime(2);
        pump.pump(1);
        pump.go(2);
        pump.pump(1);
        int[][] all = {{63, 2, Float.floatToIntBits(9f / 1.125f)}, {0, 2, Float.floatToIntBits(6f / 1.125f)},
            {9, 0, Float.floatToIntBits(9f / 1.0625f)}};
        for (int place = 0; place < 3; place++) {
            for (int what = 0; what < 3; what++) {
                is("liftedOf " + place + " " + what, pump.liftedOf(place, what), all[place][what]);
            }
        }
        is("what -1", pump.liftedOf(0, -1), BAD);
        is("what 3", pump.liftedOf(2, 3), BAD);
        is("no place -1", pump.liftedOf(-1, 0), NONE);
        is("no place ahead of what", pump.liftedOf(3, 3), NONE);
        is("no place", pump.liftedOf(LEAST, 0), NONE);
    }

    // ---- Promises 18 to 22 ----

    private static void strokes() {
        for (int length = 1; length <= 10; length++) {
            JokePump pump = new JokePump();
            pump.stroke(length);
            for (int depth = 1; depth <= 30; depth++) {
                int count = (int) Math.ceil(depth / (double) length);
                is("strokes", pump.strokes(depth), count);
                is("strokesAgain", pump.strokesAgain(depth), count);
            }
        }
        JokePump pump = made("stroke 7;pump 2");
        int[][] due = {{1, 0}, {14, 0}, {15, 1}, {21, 1}, {22, 2}, {28, 2}, {29, 3}, {30, 3}};
        for (int[] pair : due) {
            is("strokes from 14 to " + pair[0], pump.strokes(pair[0]), pair[1]);
            is("strokesAgain from 14 to " + pair[0], pump.strokesAgain(pair[0]), pair[1]);
        }
        for (int depth : new int[] {0, 31, -1, LEAST, GREATEST}) {
            is("strokes out of range", pump.strokes(depth), BAD);
            is("strokesAgain out of range", pump.strokesAgain(depth), BAD);
        }
        pump.pump(9);
        pump.pump(9);
        pump.pump(1);
        is("no more strokes", pump.reason(0, false), 8);
        pump.go(1);
        is("whatever groans there are", pump.strokes(30), 5);
        is("whatever groans there are", pump.strokesAgain(30), 5);
    }

    private static void would() {
        JokePump pump = new JokePump();
        for (int i = 0; i < 6; i++) {
            pump.joke(0, 1 + i, i, 1);
        }
        pump.joke(1, 1, 10, 1);
        int[] due = {0, 2, 4, 6, 6};
        for (int strokes = 0; strokes < due.length; strokes++) {
            is("would " + strokes, pump.would(strokes), due[strokes]);
        }
        pump.bucket(0, 5);
        is("up to the reach", pump.would(1), 3);
        is("as many as lie there", pump.would(2), 6);
        is("nothing is done", pump.account(9), 0);
        is("groans in none", pump.groansIn(0), 0);
        is("groans in 3", pump.groansIn(3), 3);
        is("groans in 4", pump.groansIn(4), 5);
        is("groans in 14", pump.groansIn(14), 38);
        is("groans in 15", pump.groansIn(15), 42);
        is("groans in 20", pump.groansIn(20), 42);
        for (int strokes : new int[] {-1, 21, LEAST, GREATEST}) {
            is("would out of range", pump.would(strokes), BAD);
            is("groansIn out of range", pump.groansIn(strokes), BAD);
        }
        pump.go(2);
        pump.pump(9);
        pump.pump(6);
        is("groans", pump.account(4), 42);
        pump.go(0);
        is("would not pump", pump.would(20), 0);
        is("groans as they are", pump.groansIn(20), 42);
        pump.drain(2);
        is("one stroke more", pump.would(20), 3);
        is("groans of one stroke more", pump.groansIn(20), 41);
    }

    private static void bestStroke() {
        JokePump pump = new JokePump();
        pump.joke(1, 5, 1, 1);
        is("no jokes at this well", pump.bestStroke(), NOTHING);
        pump.joke(0, 9, 2, 1);
        is("one stroke with 1 groan", pump.bestStroke(), 9);
        pump.joke(0, 30, 3, 1);
        is("the least deep one is the next", pump.bestStroke(), 9);
        pump.drop(1);
        is("three strokes with 9 groans", pump.bestStroke(), 10);
        pump.joke(0, 10, 4, 1);
        is("one with 2, two with 3", pump.bestStroke(), 10);
        pump.joke(0, 1, 5, 1);
        is("the least length", pump.bestStroke(), 1);
        pump.pump(1);
        is("from the reach", pump.bestStroke(), 7);
        pump.pump(2);
        is("within the reach already", pump.bestStroke(), 1);
        pump.joke(0, 8, 6, 1);
        is("within the reach, still of one stroke at least", pump.bestStroke(), 1);
    }

    // ---- Promises 23 to 25 ----

    private static void funniest() {
        JokePump pump = new JokePump();
        is("no jokes", pump.funniest(0), NONE);
        pump.joke(0, 9, 0, 6);
        pump.joke(1, 8, 1, 9);
        pump.joke(2, 9, 2, 9);
        pump.joke(3, 8, 3, 9);
        pump.joke(3, 1, 4, 8);
        pump.prime(0);
        int[] order = {1, 3, 0, 2, 4};
        for (int place = 0; place < order.length; place++) {
            is("funniest " + place, pump.funniest(place), order[place]);
        }
        is("no place -1", pump.funniest(-1), NONE);
        is("no place 5", pump.funniest(5), NONE);
        pump.prime(4);
        is("primed", pump.funniest(0), 4);
    }

    private static void inWell() {
        JokePump pump = new JokePump();
        pump.joke(3, 30, 0, 1);
        pump.joke(2, 15, 1, 1);
        pump.joke(3, 1, 2, 1);
        pump.joke(3, 15, 3, 1);
        int[] order = {2, 3, 0};
        for (int place = 0; place < order.length; place++) {
            is("inWell " + place, pump.inWell(3, place), order[place]);
        }
        is("the only one", pump.inWell(2, 0), 1);
        is("no place 3", pump.inWell(3, 3), NONE);
        is("no place -1", pump.inWell(3, -1), NONE);
        is("none", pump.inWell(0, 0), NONE);
        is("no well -1", pump.inWell(-1, 0), NONE);
        is("no well 4", pump.inWell(4, 0), NONE);
    }

    private static void fullest() {
        JokePump pump = new JokePump();
        int[] first = {0, 1, 2, 3};
        isOrder(pump, first);
        pump.bucket(2, 5);
        pump.bucket(1, 1);
        isOrder(pump, new int[] {2, 0, 3, 1});
        pump.joke(1, 1, 1, 1);
        isOrder(pump, new int[] {1, 2, 0, 3});
        pump.joke(3, 1, 2, 1);
        isOrder(pump, new int[] {3, 1, 2, 0});
        is("no place -1", pump.fullest(-1), NONE);
        is("no place 4", pump.fullest(4), NONE);
    }

    private static void isOrder(JokePump pump, int[] order) {
        for (int place = 0; place < order.length; place++) {
            is("fullest " + place, pump.fullest(place), order[place]);
        }
    }

    // ---- Promises 26 to 29 ----

    private static void isCounted() {
        JokePump pump = fullPump();
        DUE.is("counted", pump.isCounted(), true);
        pump.pump(5);
        pump.drop(0);
        DUE.is("counted with lifted and gone ones", pump.isCounted(), true);
        pump.undo();
        DUE.is("counted behind undo", pump.isCounted(), true);
        give(pump, "drop 0;go 2;pump 9");
        DUE.is("counted behind a text", pump.isCounted(), true);
    }

    private static void meanDepthAndKnownShare() {
        JokePump pump = new JokePump();
        DUE.is("mean without jokes", pump.meanDepth(), 0.0);
        pump.joke(0, 1, 0, 1);
        pump.joke(1, 2, 1, 1);
        pump.joke(2, 2, 2, 1);
        DUE.is("mean", pump.meanDepth(), 5.0 / 3.0);
        DUE.is("share of none", pump.knownShare(), 0f);
        pump.pump(1);
        DUE.is("mean", pump.meanDepth(), 2.0);
        DUE.is("share", pump.knownShare(), 0.015625f);
        pump.drop(0);
        DUE.is("gone ones are not known", pump.knownShare(), 1f / 64f);
        liftAllSigns();
    }

    /** All 64 signs become known, two by each stroke. */
    private static void liftAllSigns() {
        JokePump pump = new JokePump();
        pump.bucket(0, 5);
        for (int sign = 0; sign < 64; sign++) {
            is("joke", pump.joke(0, 1 + sign % 2, sign, 1), sign % 2);
            if (sign % 2 == 1) {
                is("lifted", pump.pump(1), 2);
                pump.drain(Math.min(50, pump.account(4)));
            }
        }
        DUE.is("share of all", pump.knownShare(), 1f);
        is("lifted", pump.account(6), 64);
        is("from the well", pump.wellOf(0, 3), 64);
        is("the first", pump.liftedOf(63, 0), 0);
        is("the latest", pump.liftedOf(0, 0), 63);
        is("no place more", pump.liftedOf(64, 0), NONE);
        isRefused("all are known", pump, pump.joke(0, 1, 0, 1), 3, 0);
        DUE.is("counted", pump.isCounted(), true);
    }

    private static void account() {
        JokePump pump = fullPump();
        pump.prime(0);
        pump.prime(7);
        pump.drop(11);
        pump.go(2);
        pump.stroke(4);
        pump.pump(3);
        pump.drain(2);
        pump.append('x');
        int[] accounts = {8, 2, 4, 12, 2, 7, 3, 12, 1, 3, 2, 2, 1, 8};
        for (int what = 0; what < accounts.length; what++) {
            is("account " + what, pump.account(what), accounts[what]);
        }
        is("account -1", pump.account(-1), BAD);
        is("account 14", pump.account(14), BAD);
        is("account greatest", pump.account(GREATEST), BAD);
    }

    // ---- Promises 30 to 32 ----

    private static void write() {
        JokePump pump = new JokePump();
        pump.joke(2, 12, 7, 1);
        pump.joke(2, 4, 60, 1);
        pump.joke(1, 30, 0, 1);
        pump.prime(1);
        pump.bucket(2, 3);
        is("length", pump.write(2), 14);
        DUE.is("line", line(pump, 14), "2u3 4:60! 12:7");
        is("no well -1", pump.write(-1), NONE);
        is("no well 4", pump.write(4), NONE);
        DUE.is("the line stays", line(pump, 14), "2u3 4:60! 12:7");
        is("a well without jokes", pump.write(0), 3);
        DUE.is("line", line(pump, 3), "0u2");
        is("another", pump.write(1), 8);
        DUE.is("line", line(pump, 8), "1u2 30:0");
        is("written -1", pump.written(-1), NONE);
        is("written greatest", pump.written(GREATEST), NONE);
        pump.undo();
        DUE.is("the line is not undone", line(pump, 8), "1u2 30:0");
        JokePump longest = new JokePump();
        for (int i = 0; i < 6; i++) {
            longest.joke(3, 25 + i, 58 + i, 1);
            longest.prime(i);
        }
        is("the longest", longest.write(3), 45);
        DUE.is("line", line(longest, 45), "3u2 25:58! 26:59! 27:60! 28:61! 29:62! 30:63!");
    }

    private static void writePump() {
        JokePump pump = new JokePump();
        is("length", pump.writePump(), 10);
        DUE.is("line", line(pump, 10), "@0^3~0o0*9");
        pump.joke(1, 30, 0, 1);
        pump.prime(0);
        pump.go(1);
        pump.pump(4);
        is("length", pump.writePump(), 11);
        DUE.is("line", line(pump, 11), "@1^3~12o5*8");
        pump.stroke(10);
        pump.pump(3);
        is("length", pump.writePump(), 13);
        DUE.is("line", line(pump, 13), "@1^10~30o16*8");
    }

    // ---- Promises 33 to 36 ----

    private static void append() {
        JokePump pump = new JokePump();
        for (char wrong : new char[] {0, 31, 127, 200, 0xFFFF}) {
            is("append " + (int) wrong, pump.append(wrong), BAD);
        }
        for (int i = 0; i < 60; i++) {
            is("append", pump.append(i % 2 == 0 ? ' ' : '~'), i + 1);
        }
        is("61st", pump.append('a'), FULL);
        is("wrong ahead of full", pump.append((char) 127), BAD);
        is("characters", pump.account(12), 60);
        is("no change", pump.account(13), 0);
        is("no fault", pump.fault(), STATE);
        is("read", pump.read(), BAD);
        is("fault", pump.fault(), 0);
        is("empty", pump.account(12), 0);
        is("again", pump.append('a'), 1);
    }

    private static void read() {
        JokePump pump = new JokePump();
        is("joke", give(pump, "joke 0 04 60 9;joke 3 30 00 1;joke 0 5 7 2"), 3);
        is("jokes", pump.account(0), 3);
        int[] first = {0, 4, 60, 9, 0, 0};
        for (int what = 0; what < first.length; what++) {
            is("joke 0", pump.jokeOf(0, what), first[what]);
        }
        is("sign 0", pump.jokeOf(1, 2), 0);
        is("others", give(pump, "prime 0;prime 01;drop 2;stroke 10;bucket 0 5;pump 2;go 3"), 7);
        DUE.is("pump", line(pump, pump.writePump()), "@3^10~0o5*7");
        DUE.is("well", line(pump, pump.write(3)), "3u2 30:0!");
        is("drain", give(pump, "drain 5"), 1);
        is("groans", pump.account(4), 0);
        is("fault", pump.fault(), STATE);
        is("reason", pump.reason(0, false), STATE);
        is("changes", pump.account(13), 3);
        is("twelve commands", give(pump, "go 2;go 1;go 0;go 2;go 1;go 0;go 2;go 1;go 0;go 2;go 1;go 0"), 12);
        is("stands", pump.account(1), 0);
    }

    private static void readRefused() {
        String ahead = "joke 1 3 5 9;joke 0 8 6 9;go 1;pump 2;go 0";
        String[] outOfRange = {"joke 4 1 1 1", "joke 0 0 1 1", "joke 0 31 1 1", "joke 0 1 64 1", "joke 0 1 1 0",
            "prime 1", "prime 99", "drop 1", "drain 0", "drain 51", "stroke 0", "stroke 11", "bucket 4 1",
            "bucket 0 0", "bucket 0 6", "go 4", "pump 0"};
        for (String command : outOfRange) {
            isTextRefused(ahead, command, 0, NOTHING, NOTHING);
            isTextRefused(ahead, "stroke 9;bucket 3 5;" + command + ";go 9", 2, NOTHING, NOTHING);
        }
        isTextRefused(ahead, "joke 2 1 5 1", 0, 3, 5);
        isTextRefused(ahead, "go 1;joke 0 8 6 1", 1, 4, 0);
        isTextRefused(ahead, "joke 3 8 1 1;joke 3 8 2 1", 1, 2, 1);
        isTextRefused(ahead, "prime 0;drop 0;joke 0 8 6 1;prime 0;prime 0", 4, 5, 0);
        isTextRefused(ahead, "stroke 4;stroke 4", 1, 5, 4);
        isTextRefused(ahead, "bucket 2 3;bucket 2 3", 1, 5, 2);
        isTextRefused(ahead, "go 3;go 3", 1, 5, 3);
        isTextRefused(ahead, "drain 3", 0, 7, 2);
        isTextRefused(ahead, "stroke 10;pump 9;pump 9;pump 9", 3, 8, 43);
        isTextRefused(ahead + ";joke 2 1 11 1;joke 2 2 12 1;joke 2 3 13 1;joke 2 4 14 1;joke 2 5 15 1;joke 2 6 16 1",
            "drop 0;joke 2 7 17 1", 1, 1, 6);
    }

    private static void readIsOneChange() {
        JokePump pump = made("joke 0 3 1 9");
        is("text", give(pump, "prime 0;pump 1;go 1;drain 1;stroke 9"), 5);
        is("changes", pump.account(13), 2);
        is("undo", pump.undo(), 1);
        is("input stays empty", pump.account(12), 0);
        isAlike("as ahead", pump, made("joke 0 3 1 9"));
        isTextRefused("joke 0 3 1 9", "prime 0;go 0", 1, 5, 0);
    }

    private static void faults() {
        isFault("", 0);
        isFault("x", 0);
        isFault(" go 1", 0);
        isFault("Go 1", 0);
        isFault(";", 0);
        isFault("go", 2);
        isFault("go ", 3);
        isFault("go1", 2);
        isFault("go  1", 3);
        isFault("go 12", 4);
        isFault("go 1 ", 4);
        isFault("go 1;", 5);
        isFault("go 1;;go 2", 5);
        isFault("go 1; go 2", 5);
        isFault("go 1;goo", 7);
        isFault("p", 1);
        isFault("px", 1);
        isFault("prume 1", 2);
        isFault("purm", 2);
        isFault("dr", 2);
        isFault("drip", 2);
        isFault("drap", 3);
        isFault("dron", 3);
        isFault("drain 1x", 7);
        isFault("drain 123", 8);
        isFault("drain ;", 6);
        isFault("drain -1", 6);
        isFault("stroke 10;", 10);
        isFault("stroke10", 6);
        isFault("bucket 0", 8);
        isFault("bucket 0;", 8);
        isFault("bucket 00 1", 8);
        isFault("bucket 0 10", 10);
        isFault("bunket 0 1", 2);
        isFault("joke 0 1 1", 10);
        isFault("joke 0 1 1 10", 12);
        isFault("joke 0 123 1 1", 9);
        isFault("joke 0 12 345 1", 12);
        isFault("joke 0 1  1 1", 9);
        isFault("joke 00 1 1 1", 6);
        isFault("jokes 0 1 1 1", 4);
        isFault("go 1;go 2;go 3;go 4;go 5;go 6;go 7;go 8;go 9;go 0;go 1;go 2;", 60);
        isFault("joke 0 12 34 5;joke 0 12 34 5;joke 0 12 34 5;joke 0 12 34 5 ", 59);
        JokePump pump = new JokePump();
        give(pump, "go 5 ");
        give(pump, "go 1");
        is("kept behind a text", pump.fault(), 4);
        give(pump, "x");
        is("the last one", pump.fault(), 0);
        pump.undo();
        is("not undone", pump.fault(), 0);
    }

    private static void reason() {
        JokePump pump = new JokePump();
        is("depth -1", pump.reason(-1, false), BAD);
        is("depth 2, ahead of the state", pump.reason(2, true), BAD);
        is("none", pump.reason(0, true), STATE);
        is("none behind", pump.reason(1, false), STATE);
        give(pump, "go 1;go 1");
        is("9", pump.reason(0, false), 9);
        is("its command", pump.reason(0, true), 1);
        is("behind", pump.reason(1, false), 5);
        is("its detail", pump.reason(1, true), 1);
        is("depth 2", pump.reason(2, true), BAD);
        isRefused("a later one has nothing behind", pump, pump.go(0), 5, 0);
        give(pump, "go 1;go 7");
        is("9", pump.reason(0, false), 9);
        is("its command", pump.reason(0, true), 1);
        is("nothing behind", pump.reason(1, false), NOTHING);
        is("nothing behind in detail", pump.reason(1, true), NOTHING);
        is("no error", pump.go(2), 0);
        is("a wrong input", pump.go(9), NONE);
        pump.undo();
        pump.save();
        pump.restore();
        is("kept", pump.reason(0, false), 9);
    }

    // ---- Promises 37 to 39 ----

    private static void undo() {
        JokePump pump = new JokePump();
        int[] strokes = {4, 5, 6, 7, 8, 9, 10, 1, 2, 3};
        for (int i = 0; i < strokes.length; i++) {
            is("changes", pump.account(13), Math.min(i, 8));
            pump.stroke(strokes[i]);
        }
        is("changes", pump.account(13), 8);
        is("an error is no change", pump.stroke(3), REFUSED);
        is("an error costs none", pump.account(13), 8);
        for (int left = 7; left >= 0; left--) {
            is("undo", pump.undo(), left);
            is("length", pump.account(2), strokes[left + 1]);
        }
        is("none more", pump.undo(), STATE);
        is("length", pump.account(2), 5);
        pump.stroke(8);
        is("again", pump.account(13), 1);
        is("undo again", pump.undo(), 0);
        is("length", pump.account(2), 5);
    }

    private static void undoAll() {
        String[] changes = {"prime 0", "drain 7", "go 1", "pump 3", "drop 1", "joke 0 13 50 3", "stroke 5",
            "bucket 2 1"};
        for (int kept = 0; kept < changes.length; kept++) {
            JokePump pump = does(fullPump(), "bucket 0 5;pump 9");
            JokePump due = does(fullPump(), "bucket 0 5;pump 9");
            for (int i = 0; i < changes.length; i++) {
                does(pump, changes[i]);
                if (i < kept) {
                    does(due, changes[i]);
                }
            }
            for (int left = changes.length - 1; left >= kept; left--) {
                is("undo", pump.undo(), left);
            }
            DUE.is("as ahead of " + changes[kept], everything(pump), everything(due));
            DUE.is("counted", pump.isCounted(), true);
        }
    }

    private static void saveAndRestore() {
        JokePump pump = does(fullPump(), "pump 2");
        pump.append('g');
        is("save", pump.save(), 10);
        is("save is no change", pump.account(13), 8);
        does(pump, "drop 0;go 3;pump 9");
        pump.append('o');
        is("refused", pump.go(3), REFUSED);
        is("restore", pump.restore(), 10);
        is("nothing can be undone", pump.account(13), 0);
        is("nothing can be undone", pump.undo(), STATE);
        is("the input stays", pump.account(12), 2);
        is("the reason stays", pump.reason(0, true), 3);
        DUE.is("as saved", everything(pump), everything(does(fullPump(), "pump 2")));
        does(pump, "drop 3");
        is("a change behind it", pump.account(13), 1);
        is("undone", pump.undo(), 0);
        does(pump, "drop 3;drop 3");
        is("it stays saved", pump.restore(), 10);
        does(pump, "drop 3");
        is("in place of it", pump.save(), 9);
        is("undo", pump.undo(), 0);
        is("jokes", pump.account(0), 10);
        is("restore the later one", pump.restore(), 9);
        pump.write(2);
        is("the line stays", pump.written(0), '2');
        isAlike("the later one", does(pump, "restore"), does(fullPump(), "pump 2;drop 3;save;restore"));
    }

    /** Behind the 512th call the answers are free, but nothing is thrown. */
    private static void laterCalls() {
        JokePump pump = new JokePump();
        for (int round = 0; round < 5000; round++) {
            pump.joke(round % 5, 1 + round % 30, round % 64, 1 + round % 9);
            pump.prime(round % 12);
            pump.pump(1 + round % 9);
            pump.drain(1 + round % 50);
            pump.go(round % 4);
            pump.liftedOf(round % 64, round % 3);
        }
        DUE.is("no call throws", true, true);
    }
}
