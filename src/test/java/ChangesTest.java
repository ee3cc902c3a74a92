/** The sentences of "Changes", "In doubt" and of the constants that name a boundary, one after the other. */
public final class ChangesTest extends PumpCheck {
    private static final String SIX = "joke 1 1 0 1;joke 1 2 1 1;joke 1 3 2 1;joke 1 4 3 1;joke 1 5 4 1;joke 1 6 5 1";
    private static final String TWELVE = SIX
        + ";joke 2 1 6 1;joke 2 2 7 1;joke 2 3 8 1;joke 3 4 9 1;joke 3 5 10 1;joke 0 6 11 1";
    private static final String TO_41_GROANS = "stroke 10;pump 9;pump 2";
    // One call of each kind of change, each of which changes something, and behind which the next one is no error.
    private static final String[] CHANGES = {"joke 0 2 20 5", "prime 0", "stroke 5", "pump 2", "drain 1",
        "bucket 2 5",
        "go 2", "drop 0", "text go 1,pump 1,stroke 9"};

    public static void main(String[] args) {
        changes();
        nothingOtherwise();
        noChanges();
        latestEight();
        ringWraps();
        undoneInBetween();
        neitherUndoneNorSaved();
        errorsChangeNothing();
        refusedBehindEight();
        severalErrors();
        numbersAheadOfReasons();
        jokeOfACommand();
        strokesLeftOut();
        goneIsNotKnown();
        numbersAheadOfAStroke();
        wouldLeavesOut();
        oneDrainingAlone();
        deepestIsLatest();
        nextJoke();
        knownSigns();
        constants();
        DUE.finish("ChangesTest");
    }

    /** The first of the changes, so many. */
    private static String changes(int count) {
        StringBuilder calls = new StringBuilder("joke 3 9 60 9;joke 3 8 61 9");
        for (int i = 0; i < count; i++) {
            calls.append(';').append(CHANGES[i]);
        }
        return calls.toString();
    }

    // ---- Changes ----

    private static void changes() {
        says("The changes are the calls of joke, prime, drop, drain, stroke, bucket, go, pump and read that "
            + "return no error");
        for (int i = 0; i < CHANGES.length; i++) {
            JokePump pump = made(changes(i));
            is("changes", pump.account(13), Math.min(8, i + 2));
            does(pump, CHANGES[i]);
            is("changes behind " + CHANGES[i], pump.account(13), Math.min(8, i + 3));
            is("undo", pump.undo(), Math.min(8, i + 3) - 1);
            DUE.is(CHANGES[i] + " undone", everything(pump), everything(made(changes(i))));
        }
    }

    private static void nothingOtherwise() {
        says("also if nothing is otherwise then");
        JokePump pump = new JokePump();
        is("there and back", give(pump, "go 1;go 0"), 2);
        is("changes", pump.account(13), 1);
        is("strokes there and back", give(pump, "stroke 4;stroke 3;bucket 0 1;bucket 0 2"), 4);
        is("changes", pump.account(13), 2);
        is("undo", pump.undo(), 1);
        is("undo", pump.undo(), 0);
        is("undo", pump.undo(), STATE);
        is("pump that lifts nothing", made("pump 1").account(13), 1);
    }

    private static void noChanges() {
        says("The changes are the calls of joke, prime, drop, drain, stroke, bucket, go, pump and read");
        JokePump pump = made("joke 0 5 5 5;joke 0 1 1 1;pump 1");
        pump.append('x');
        pump.written(0);
        pump.write(0);
        pump.writePump();
        pump.would(20);
        pump.groansIn(20);
        pump.bestStroke();
        pump.isCounted();
        pump.save();
        is("changes", pump.account(13), 3);
        is("a fault", pump.read(), BAD);
        is("changes", pump.account(13), 3);
        is("undo is none", pump.undo(), 2);
        is("changes", pump.account(13), 2);
        is("restore is none", pump.restore(), 1);
        is("changes", pump.account(13), 0);
    }

    private static void latestEight() {
        says("The latest 8 that were not undone can be undone, the latest one first.");
        for (int count = 0; count <= 30; count++) {
            JokePump pump = new JokePump();
            for (int i = 0; i < count; i++) {
                does(pump, "stroke " + lengthOf(i));
                is("changes", pump.account(13), Math.min(8, i + 1));
            }
            int most = Math.min(8, count);
            for (int left = most - 1; left >= 0; left--) {
                is("undo", pump.undo(), left);
                is("changes", pump.account(13), left);
                is("length", pump.account(2), lengthOf(count - most + left - 1));
            }
            is("none more", pump.undo(), STATE);
            is("none more again", pump.undo(), STATE);
            is("changes", pump.account(13), 0);
            is("length", pump.account(2), lengthOf(count - most - 1));
        }
    }

    /** The length that is told by a change, ahead of the first one 3; two in a row are never the same. */
    private static int lengthOf(int change) {
        return 1 + (change + 3) % 10;
    }

    /** So many undone, and so many done, again and again: what was pushed out stays out. */
    private static void ringWraps() {
        says("The latest 8 that were not undone can be undone, the latest one first.");
        for (int undone = 1; undone <= 8; undone++) {
            JokePump pump = made("stroke 1;stroke 2;stroke 3;stroke 4;stroke 5;stroke 6;stroke 7;stroke 8;stroke 9");
            for (int round = 0; round < 5; round++) {
                for (int i = 1; i <= undone; i++) {
                    is("undo", pump.undo(), 8 - i);
                }
                is("length", pump.account(2), 9 - undone);
                for (int i = 1; i <= undone; i++) {
                    is("stroke", pump.stroke(9 - undone + i), 9 - undone + i - 1);
                    is("changes", pump.account(13), 8 - undone + i);
                }
            }
            for (int left = 7; left >= 0; left--) {
                is("undo", pump.undo(), left);
            }
            is("none more", pump.undo(), STATE);
            is("the first one stays", pump.account(2), 1);
        }
    }

    private static void undoneInBetween() {
        says("The latest 8 that were not undone can be undone, the latest one first.");
        JokePump pump = made("stroke 4;stroke 5;undo;stroke 6;undo;undo;go 1;stroke 7;undo;go 2");
        is("changes", pump.account(13), 2);
        is("undo", pump.undo(), 1);
        is("well", pump.account(1), 1);
        is("undo", pump.undo(), 0);
        is("well", pump.account(1), 0);
        is("length", pump.account(2), 3);
        is("none more", pump.undo(), STATE);
        isAlike("joke 0 1 1 1;joke 0 2 2 2;pump 1;undo;drop 0;undo;prime 1;pump 1;undo;undo",
            "joke 0 1 1 1;joke 0 2 2 2");
    }

    private static void neitherUndoneNorSaved() {
        says("The input, the fault position, the latest reason and the line are neither undone nor saved.");
        JokePump pump = made("stroke 4;save");
        pump.append('g');
        pump.append('!');
        is("a fault", pump.read(), BAD);
        is("fault", pump.fault(), 1);
        pump.append('x');
        pump.append('y');
        pump.append('z');
        is("refused", pump.go(0), REFUSED);
        is("a line", pump.writePump(), 10);
        is("undo", pump.undo(), 0);
        isKept(pump);
        is("restore", pump.restore(), 0);
        isKept(pump);
        is("stroke", pump.account(2), 4);
        is("save", pump.save(), 0);
        isKept(pump);
        is("read", pump.read(), BAD);
        is("fault", pump.fault(), 0);
        is("restore", pump.restore(), 0);
        is("the input stays empty", pump.account(12), 0);
        is("fault", pump.fault(), 0);
    }

    private static void isKept(JokePump pump) {
        is("input", pump.account(12), 3);
        is("fault", pump.fault(), 1);
        hasReason("go", pump, 5, 0, NOTHING, NOTHING);
        DUE.is("line", line(pump, 10), "@0^4~0o0*9");
    }

    private static void errorsChangeNothing() {
        says("A call that returns an error changes nothing, but where it is told.");
        String busy = TWELVE + ";prime 3;stroke 10;bucket 1 5;go 1;pump 9;pump 1;pump 1;go 3;joke 1 9 40 1;drop 2";
        String[] errors = {"joke -1 1 1 1", "joke 4 1 1 1", "joke 0 0 50 1", "joke 0 31 50 1", "joke 0 1 -1 1",
            "joke 0 1 64 1", "joke 0 1 50 0", "joke 0 1 50 10", "joke 0 1 0 1", "joke 0 1 9 1", "joke 3 4 50 1",
            "prime -1", "prime 6", "drop -1", "drop 6", "drain 0", "drain 51", "drain 42", "stroke 0", "stroke 11",
            "stroke 10", "bucket -1 1", "bucket 4 1", "bucket 0 0", "bucket 0 6", "bucket 1 5", "go -1", "go 4",
                "go 3",
            "pump 0", "pump 10", "pump 1", "restore", "read", "text go", "text go 2,go 4",
                "text go 2,drain 9,drop 0,go 2",
            "text go 2,x"};
        for (String error : errors) {
            JokePump pump = made(busy);
            is("the line", pump.writePump(), 12);
            DUE.is(error + " is an error", call(pump, error) < 0, true);
            DUE.is("the line stays", line(pump, 12), "@3^10~0o41*8");
            is("nothing of it is known", pump.fault(), error.startsWith("text go 2,x") ? 5
                : error.equals("text go") ? 2 : error.equals("read") ? 0 : STATE);
            isAlike(error, pump, made(busy));
            pump = made(busy);
            call(pump, error);
            isAlike(error + ", undone", does(pump, "undo;undo;undo"), made(busy + ";undo;undo;undo"));
        }
    }

    private static void refusedBehindEight() {
        says("A call that returns an error changes nothing, but where it is told.");
        String eight = "stroke 4;stroke 5;stroke 6;stroke 7;stroke 8;stroke 9;stroke 10;stroke 1";
        String[] errors = {"stroke 1", "stroke 11", "go 0", "go 4", "text go 1,stroke 2,stroke 2",
            "text go 1,go 9", "drop 0",
            "drain 1", "text go", "bucket 0 2", "prime 0", "pump 0", "joke 0 0 0 0"};
        for (String error : errors) {
            JokePump pump = made("stroke 2;" + eight);
            DUE.is(error + " is an error", call(pump, error) < 0, true);
            DUE.is(error + " is an error", call(pump, error) < 0, true);
            for (int left = 7; left >= 0; left--) {
                is("undo", pump.undo(), left);
                is("length", pump.account(2), left == 0 ? 2 : 3 + left);
            }
            is("none more", pump.undo(), STATE);
            is("well", pump.account(1), 0);
        }
    }

    private static void severalErrors() {
        says("If several errors are named for a method, the first of them that applies is returned.");
        JokePump pump = made(TWELVE + ";" + TO_41_GROANS);
        is("joke: no such well ahead of all", pump.joke(4, 0, 64, 0), NONE);
        is("joke: out of range ahead of a reason", pump.joke(1, 1, 0, 10), BAD);
        is("joke: out of range ahead of a reason", pump.joke(1, 31, 0, 1), BAD);
        is("bucket: no such well ahead of out of range", pump.bucket(4, 0), NONE);
        is("bucket: out of range ahead of a reason", pump.bucket(0, 6), BAD);
        is("pump: out of range ahead of a reason", pump.pump(10), BAD);
        is("drain: out of range ahead of a reason", pump.drain(51), BAD);
        is("jokeOf: no such joke ahead of out of range", pump.jokeOf(12, 6), NONE);
        is("wellOf: no such well ahead of out of range", pump.wellOf(4, 4), NONE);
        is("laughBits: no such joke ahead of out of range", pump.laughBits(12, 51), NONE);
        is("liftedOf: no such place ahead of out of range", pump.liftedOf(1, 3), NONE);
        is("reason: no reason so far", pump.reason(0, false), STATE);
        is("reason: out of range ahead of the state", pump.reason(-1, false), BAD);
        for (int i = 0; i < 60; i++) {
            pump.append('x');
        }
        is("append: out of range ahead of full", pump.append((char) 31), BAD);
        is("append: full", pump.append('x'), FULL);
    }

    // ---- In doubt ----

    private static void numbersAheadOfReasons() {
        says("Numbers of a command are looked at ahead of its reasons.");
        String ahead = TWELVE + ";" + TO_41_GROANS;
        isTextRefused(ahead, "joke 1 1 0 0", 0, NOTHING, NOTHING);
        isTextRefused(ahead, "joke 1 0 0 1", 0, NOTHING, NOTHING);
        isTextRefused(ahead, "joke 1 1 64 1", 0, NOTHING, NOTHING);
        isTextRefused(ahead, "joke 4 1 0 1", 0, NOTHING, NOTHING);
        isTextRefused(ahead, "pump 0", 0, NOTHING, NOTHING);
        isTextRefused(ahead, "drain 51", 0, NOTHING, NOTHING);
        isTextRefused(ahead, "drain 50", 0, 7, 41);
        isTextRefused(ahead, "bucket 4 2", 0, NOTHING, NOTHING);
        isTextRefused(ahead, "go 0", 0, 5, 0);
    }

    private static void jokeOfACommand() {
        says("A joke that there is not, in a command, is a number that is out of range.");
        isTextRefused("stroke 4", "prime 0", 0, NOTHING, NOTHING);
        isTextRefused("stroke 4", "drop 0", 0, NOTHING, NOTHING);
        isTextRefused(TWELVE, "prime 12", 0, NOTHING, NOTHING);
        isTextRefused(TWELVE, "drop 12", 0, NOTHING, NOTHING);
        isTextRefused(TWELVE, "drop 0;prime 11", 1, NOTHING, NOTHING);
        isTextRefused(TWELVE, "drop 99", 0, NOTHING, NOTHING);
        isAlike(TWELVE + ";text prime 11,drop 11", TWELVE + ";prime 11;drop 11");
        is("prime", made(TWELVE).prime(12), NONE);
        is("drop", made(TWELVE).drop(12), NONE);
    }

    private static void strokesLeftOut() {
        says("Of several strokes that are to be made those that the pump does not make any more, for its groans, "
            + "are left out, but without the first one all are refused.");
        JokePump pump = made("stroke 10;pump 9;joke 0 1 1 1;joke 0 2 2 2;joke 0 3 3 3;joke 0 4 4 4;joke 0 5 5 5");
        is("groans", pump.account(4), 33);
        is("two are made", pump.pump(9), 4);
        is("groans", pump.account(4), 41);
        is("strokes", pump.account(9), 11);
        isRefused("without the first one", pump, pump.pump(9), 8, 41);
        does(pump, "drain 1");
        is("one is made", pump.pump(9), 1);
        is("groans", pump.account(4), 44);
        is("strokes", pump.account(9), 12);
        isAlike("stroke 10;pump 9;text pump 9", "stroke 10;pump 9;pump 2");
        isAlike("stroke 10;pump 9;text pump 1,pump 9", "stroke 10;pump 9;pump 1;pump 1");
        isTextRefused("stroke 10;pump 9", "pump 9;pump 1", 1, 8, 41);
    }

    private static void goneIsNotKnown() {
        says("A joke that goes without being lifted is not known.");
        JokePump pump = made("joke 0 1 7 1;joke 1 1 8 1;drop 0;text drop 0");
        is("7", pump.isKnown(7), 0);
        is("8", pump.isKnown(8), 0);
        DUE.is("share", pump.knownShare(), 0f);
        is("comes again", pump.joke(0, 1, 7, 1), 0);
        is("comes again", pump.joke(0, 2, 8, 1), 1);
        is("went", pump.account(8), 2);
        is("came", pump.account(7), 4);
        is("lifted", pump.account(6), 0);
    }

    private static void numbersAheadOfAStroke() {
        says("The numbers of jokes that are lifted by one stroke are those that they had ahead of it.");
        String jokes = "joke 0 3 10 1;joke 1 1 11 2;joke 0 1 12 3;joke 2 1 13 4;joke 0 2 14 5;joke 3 1 15 6;"
            + "prime 0;prime 3;prime 4";
        JokePump pump = made(jokes + ";bucket 0 3");
        is("lifted", pump.pump(1), 3);
        int[] signs = {10, 14, 12};
        float[] laughs = {1.5f, 7.5f, 3f};
        for (int place = 0; place < 3; place++) {
            is("sign", pump.liftedOf(place, 0), signs[place]);
            is("laugh", pump.liftedOf(place, 2), Float.floatToIntBits(laughs[place] / 1.0625f));
        }
        int[] left = {11, 13, 15};
        for (int joke = 0; joke < 3; joke++) {
            is("the others", pump.jokeOf(joke, 2), left[joke]);
            is("primed", pump.jokeOf(joke, 4), joke == 1 ? 1 : 0);
        }
    }

    private static void wouldLeavesOut() {
        says("What would be is told of strokes alone, of which those are left out that the pump would not "
            + "make for its groans.");
        JokePump pump = made("stroke 10;pump 9;joke 0 1 1 1;joke 0 2 2 2;joke 0 3 3 3;joke 0 4 4 4;joke 0 5 5 5");
        int[] groans = {33, 37, 41, 41, 41};
        int[] lifted = {0, 2, 4, 4, 4};
        for (int strokes = 0; strokes < groans.length; strokes++) {
            is("groans in " + strokes, pump.groansIn(strokes), groans[strokes]);
            is("would " + strokes, pump.would(strokes), lifted[strokes]);
        }
        does(pump, "pump 2");
        is("without the first one", pump.groansIn(1), 41);
        is("without the first one", pump.would(1), 0);
        is("all left out", pump.groansIn(20), 41);
        is("all left out", pump.would(20), 0);
        is("no reason", pump.reason(0, false), STATE);
    }

    private static void oneDrainingAlone() {
        says("Drops are brought by the groans of one draining alone.");
        String spent = SIX + ";prime 0;prime 1;prime 2;" + TO_41_GROANS;
        is("5 and 5", made(spent + ";drain 5;drain 5").account(5), 6);
        is("9 and 1", made(spent + ";drain 9;drain 1").account(5), 6);
        is("19 and 1", made(spent + ";drain 19;drain 1").account(5), 7);
        is("19 and 19", made(spent + ";drain 19;drain 19").account(5), 8);
        is("four of 9", made(spent + ";drain 9;drain 9;drain 9;drain 9").account(5), 6);
        is("in a text", made(spent + ";text drain 9,drain 9,drain 9,drain 10").account(5), 7);
        is("drained", made(spent + ";drain 9;drain 9;drain 9;drain 9").account(10), 36);
    }

    private static void deepestIsLatest() {
        says("Of jokes that one stroke lifts the deepest is the latest.");
        JokePump pump = made("bucket 0 5;joke 0 3 3 1;joke 0 1 1 1;joke 0 5 5 1;joke 0 2 2 1;joke 0 4 4 1;"
            + "stroke 5;pump 1");
        for (int place = 0; place < 5; place++) {
            is("place " + place, pump.liftedOf(place, 0), 5 - place);
        }
    }

    private static void nextJoke() {
        says("The next joke is the least deep one, also if the reach is as much already.");
        JokePump pump = made("stroke 10;pump 2;joke 0 20 1 1;joke 0 30 2 1");
        is("at the reach", pump.bestStroke(), 1);
        is("less deep than the reach", does(pump, "joke 0 5 3 1").bestStroke(), 1);
        is("a deeper one", does(pump, "drop 0;drop 1").bestStroke(), 10);
        is("the least deep of two", does(pump, "joke 0 23 4 1").bestStroke(), 3);
        is("near a groan more", made("stroke 9;pump 1;joke 0 3 1 1").bestStroke(), 1);
        is("behind 29", made("stroke 10;pump 2;stroke 9;pump 1;joke 0 29 1 1").bestStroke(), 1);
    }

    private static void knownSigns() {
        says("Known signs are counted among all 64.");
        DUE.is("none", new JokePump().knownShare(), 0f);
        DUE.is("1", made("joke 0 1 63 1;pump 1").knownShare(), 1f / 64f);
        DUE.is("3", made("bucket 0 3;joke 0 1 63 1;joke 0 2 0 1;joke 0 3 1 1;joke 1 1 2 1;pump 1").knownShare(),
            3f / 64f);
    }

    // ---- The constants ----

    private static void constants() {
        says("The constants");
        is("NONE", JokePump.NONE, -1);
        is("BAD", JokePump.BAD, -2);
        is("STATE", JokePump.STATE, -3);
        is("FULL", JokePump.FULL, -4);
        is("REFUSED", JokePump.REFUSED, -5);
        is("NOTHING", JokePump.NOTHING, -6);
    }
}
