/** The boundaries that the promises 1 to 39 name, promise by promise. */
public final class EdgesTest extends PumpCheck {
    private static final String SIX = "joke 1 1 0 1;joke 1 6 1 2;joke 1 12 2 3;joke 1 18 3 4;joke 1 24 4 5;"
        + "joke 1 30 5 6";
    private static final String TWELVE = SIX
        + ";joke 2 1 6 7;joke 2 6 7 8;joke 2 12 8 9;joke 3 18 9 1;joke 3 24 10 2;joke 0 30 11 3";
    private static final String TO_41_GROANS = "stroke 10;pump 9;pump 2";
    // Numbers that are far out of every range.
    private static final int[] FAR = {LEAST, LEAST + 1, -100, 100, 65536, GREATEST - 1, GREATEST};

    public static void main(String[] args) {
        newObject();
        joke();
        prime();
        drop();
        drain();
        stroke();
        bucket();
        go();
        pump();
        jokeOf();
        wellOf();
        isKnown();
        laughBits();
        laughs();
        wholeLaughs();
        liftedOf();
        strokesFromEachReach();
        strokesOutOfRange();
        whateverGroans();
        wouldIsDone();
        wouldOutOfRange();
        bestStroke();
        bestStrokeWithGroans();
        funniest();
        inWell();
        fullest();
        isCounted();
        meanDepth();
        knownShare();
        account();
        write();
        writePump();
        written();
        append();
        read();
        fault();
        reason();
        undo();
        save();
        restore();
        theLast512();
        DUE.finish("EdgesTest");
    }

    // ---- Promise 1 ----

    private static void newObject() {
        says("1: Creates wells without jokes.");
        JokePump pump = new JokePump();
        int[] accounts = {0, 0, 3, 0, 0, 9, 0, 0, 0, 0, 0, 0, 0, 0};
        for (int what = 0; what < accounts.length; what++) {
            is("account " + what, pump.account(what), accounts[what]);
        }
        for (int well = 0; well < 4; well++) {
            int[] numbers = {2, 0, 0, 0};
            for (int what = 0; what < 4; what++) {
                is("wellOf " + well + " " + what, pump.wellOf(well, what), numbers[what]);
            }
            is("inWell", pump.inWell(well, 0), NONE);
            is("fullest", pump.fullest(well), well);
        }
        for (int what = 0; what < 6; what++) {
            is("jokeOf", pump.jokeOf(0, what), NONE);
            is("liftedOf", pump.liftedOf(0, what), NONE);
        }
        for (int sign = 0; sign < 64; sign++) {
            is("isKnown", pump.isKnown(sign), 0);
        }
        is("laughBits", pump.laughBits(0, 0), NONE);
        DUE.is("laughs", pump.laughs(), 0f);
        DUE.is("laughsAgain", pump.laughsAgain(), 0f);
        is("wholeLaughs", pump.wholeLaughs(), 0);
        is("strokes", pump.strokes(30), 10);
        is("strokesAgain", pump.strokesAgain(30), 10);
        is("would", pump.would(20), 0);
        is("groansIn", pump.groansIn(0), 0);
        is("bestStroke", pump.bestStroke(), NOTHING);
        is("funniest", pump.funniest(0), NONE);
        DUE.is("isCounted", pump.isCounted(), true);
        DUE.is("meanDepth", pump.meanDepth(), 0.0);
        DUE.is("knownShare", pump.knownShare(), 0f);
        is("written", pump.written(0), NONE);
        is("fault", pump.fault(), STATE);
        is("reason", pump.reason(0, false), STATE);
        is("undo", pump.undo(), STATE);
        is("restore", pump.restore(), STATE);
        is("another one has a state of its own", made("joke 0 1 1 1;pump 1").account(6) + pump.account(6), 1);
    }

    // ---- Promises 2 to 9 ----

    private static void joke() {
        says("2: Returns its number; NONE if there is no such well; BAD");
        int[] wells = {LEAST, -1, 0, 3, 4, GREATEST};
        int[] depths = {LEAST, 0, 1, 30, 31, GREATEST};
        int[] signs = {LEAST, -1, 0, 63, 64, GREATEST};
        int[] wits = {LEAST, 0, 1, 9, 10, GREATEST};
        for (int w = 0; w < 6; w++) {
            for (int d = 0; d < 6; d++) {
                for (int s = 0; s < 6; s++) {
                    for (int t = 0; t < 6; t++) {
                        int due = !isInner(w) ? NONE : isInner(d) && isInner(s) && isInner(t) ? 0 : BAD;
                        JokePump pump = new JokePump();
                        is("joke " + wells[w] + " " + depths[d] + " " + signs[s] + " " + wits[t],
                            pump.joke(wells[w], depths[d], signs[s], wits[t]), due);
                        is("jokes", pump.account(0), due == 0 ? 1 : 0);
                    }
                }
            }
        }
        says("2: REFUSED for 3, 4, 2, or 1, for all jokes, then for those of the well.");
        isRefused(TWELVE, "joke 1 2 20 1", 1, 12);
        isRefused(SIX, "joke 1 2 20 1", 1, 6);
        isRefused(SIX + ";joke 2 1 6 7;drop 6", "joke 1 2 20 1", 1, 6);
    }

    /** Whether the number at this index, of six, is the least or the greatest one in range. */
    private static boolean isInner(int index) {
        return index == 2 || index == 3;
    }

    private static void prime() {
        says("3: Returns how many drops there are then; NONE if there is no such joke; REFUSED for 5, with "
            + "the joke, or 6.");
        JokePump pump = made("joke 0 1 1 1;joke 0 2 2 2");
        for (int joke : new int[] {-1, 2, 12, LEAST, GREATEST}) {
            is("prime " + joke, pump.prime(joke), NONE);
        }
        is("the last one", pump.prime(1), 8);
        isRefused("so already", pump, pump.prime(1), 5, 1);
        is("the first one", pump.prime(0), 7);
        isRefused("so already", pump, pump.prime(0), 5, 0);
        does(pump, "drop 0");
        isRefused("it is joke 0 now", pump, pump.prime(0), 5, 0);
        is("no joke 1", pump.prime(1), NONE);
        is("no joke at all", does(pump, "drop 0").prime(0), NONE);
        is("no such joke ahead of no drop", made(TWELVE + ";prime 0;prime 1;prime 2;prime 3;prime 4;prime 5;prime 6;"
            + "prime 7;prime 8").prime(12), NONE);
    }

    private static void drop() {
        says("4: Returns how many jokes there are then; NONE if there is no such joke.");
        JokePump pump = made(TWELVE);
        for (int joke : new int[] {-1, 12, LEAST, GREATEST}) {
            is("drop " + joke, pump.drop(joke), NONE);
        }
        is("the last one", pump.drop(11), 11);
        is("the last one again", pump.drop(11), NONE);
        is("the first one", pump.drop(0), 10);
        for (int left = 9; left >= 0; left--) {
            is("drop", pump.drop(left / 2), left);
            is("went", pump.account(8), 12 - left);
        }
        is("none is left", pump.drop(0), NONE);
        is("lifted", pump.account(6), 0);
    }

    private static void drain() {
        says("5: how many, 1 to 50. Returns how many drops there are then; BAD; REFUSED for 7.");
        JokePump pump = made(TO_41_GROANS);
        for (int groans : new int[] {0, 51, -1}) {
            is("drain " + groans, pump.drain(groans), BAD);
        }
        for (int groans : FAR) {
            is("drain " + groans, pump.drain(groans), BAD);
        }
        isRefused("50", pump, pump.drain(50), 7, 41);
        isRefused("1 more than there are", pump, pump.drain(42), 7, 41);
        is("all there are", pump.drain(41), 9);
        is("groans", pump.account(4), 0);
        isRefused("1 of none", pump, pump.drain(1), 7, 0);
        is("1 of 1", does(pump, "go 1;stroke 1;pump 1").drain(1), 9);
        is("drained", pump.account(10), 42);
    }

    private static void stroke() {
        says("6: Returns the length before; BAD; REFUSED for 5, with the length.");
        JokePump pump = new JokePump();
        for (int length : FAR) {
            is("stroke " + length, pump.stroke(length), BAD);
        }
        int before = 3;
        for (int length : new int[] {1, 10, 9, 2, 3, 4}) {
            isRefused("so already", pump, pump.stroke(before), 5, before);
            is("0", pump.stroke(0), BAD);
            is("11", pump.stroke(11), BAD);
            is("stroke " + length, pump.stroke(length), before);
            before = length;
        }
    }

    private static void bucket() {
        says("7: Returns how many the one before held; NONE if there is no such well; BAD; REFUSED for 5, "
            + "with the well.");
        for (int well = 0; well < 4; well++) {
            JokePump pump = new JokePump();
            for (int size : FAR) {
                is("bucket " + size, pump.bucket(well, size), BAD);
                is("no well " + size, pump.bucket(size, well), NONE);
            }
            int before = 2;
            for (int size : new int[] {1, 5, 4, 3, 2}) {
                isRefused("so already", pump, pump.bucket(well, before), 5, well);
                is("0", pump.bucket(well, 0), BAD);
                is("6", pump.bucket(well, 6), BAD);
                is("bucket " + size, pump.bucket(well, size), before);
                before = size;
            }
        }
    }

    private static void go() {
        says("8: Returns the well at which it stood; NONE if there is no such well; REFUSED for 5, with the well.");
        for (int from = 0; from < 4; from++) {
            for (int to = 0; to < 4; to++) {
                JokePump pump = made(from == 0 ? "pump 3" : "go " + from + ";pump 3");
                int answer = pump.go(to);
                if (from == to) {
                    isRefused("it stands there", pump, answer, 5, to);
                } else {
                    is("from " + from + " to " + to, answer, from);
                }
                is("well", pump.account(1), to);
                is("reach", pump.account(3), from == to ? 9 : 0);
                is("no well -1", pump.go(-1), NONE);
                is("no well 4", pump.go(4), NONE);
                is("well", pump.account(1), to);
            }
        }
    }

    private static void pump() {
        says("9: how many, 1 to 9. Returns how many jokes are lifted by them; BAD; REFUSED for 8.");
        for (int strokes = 1; strokes <= 9; strokes++) {
            JokePump pump = made("joke 0 1 1 1;joke 0 6 2 1;joke 0 7 3 1;joke 0 12 4 1;joke 0 24 5 1;joke 0 27 6 1");
            int[] due = {0, 1, 2, 3, 4, 4, 4, 4, 5, 6};
            is("pump " + strokes, pump.pump(strokes), due[strokes]);
            is("strokes", pump.account(9), strokes);
            is("reach", pump.account(3), 3 * strokes);
            is("changes", pump.account(13), 7);
        }
        JokePump pump = new JokePump();
        is("0", pump.pump(0), BAD);
        is("10", pump.pump(10), BAD);
        is("-1", pump.pump(-1), BAD);
        for (int strokes : FAR) {
            is("pump " + strokes, pump.pump(strokes), BAD);
        }
        is("none is made", pump.account(9), 0);
        isRefused(TO_41_GROANS, "pump 1", 8, 41);
        is("at 40", made(TO_41_GROANS + ";drain 1;pump 1").account(9), 12);
    }

    // ---- Promises 10 to 17 ----

    private static void jokeOf() {
        says("10: Returns the number; NONE if there is no such joke; BAD.");
        JokePump pump = made(SIX + ";joke 0 30 63 9;prime 6");
        for (int joke = 0; joke < 6; joke++) {
            int[] due = {1, joke == 0 ? 1 : 6 * joke, joke, joke + 1, 0, joke};
            for (int what = 0; what < 6; what++) {
                is("jokeOf " + joke + " " + what, pump.jokeOf(joke, what), due[what]);
            }
        }
        int[] last = {0, 30, 63, 9, 1, 0};
        for (int what = 0; what < 6; what++) {
            is("jokeOf 6 " + what, pump.jokeOf(6, what), last[what]);
            is("no joke", pump.jokeOf(7, what), NONE);
            is("no joke", pump.jokeOf(-1, what), NONE);
            is("no joke", pump.jokeOf(LEAST, what), NONE);
            is("no joke", pump.jokeOf(GREATEST, what), NONE);
        }
        for (int what : new int[] {-1, 6, LEAST, GREATEST}) {
            is("what " + what, pump.jokeOf(0, what), BAD);
            is("no joke ahead of it", pump.jokeOf(7, what), NONE);
        }
        says("10: 5 for how many jokes of its well lie less deep");
        pump = made("joke 2 30 1 1;joke 2 29 2 1;joke 2 28 3 1;joke 2 1 4 1;joke 2 2 5 1;joke 3 1 6 1;joke 3 2 7 1");
        int[] lessDeep = {4, 3, 2, 0, 1, 0, 1};
        for (int joke = 0; joke < lessDeep.length; joke++) {
            is("less deep than " + joke, pump.jokeOf(joke, 5), lessDeep[joke]);
        }
    }

    private static void wellOf() {
        says("11: 2 for the depth of the least deep one, 0 without one");
        JokePump pump = made(SIX + ";bucket 1 5;joke 0 30 11 3;joke 3 1 12 1;go 3;pump 1");
        int[][] due = {{2, 1, 30, 0}, {5, 6, 1, 0}, {2, 0, 0, 0}, {2, 0, 0, 1}};
        for (int well = 0; well < 4; well++) {
            for (int what = 0; what < 4; what++) {
                is("wellOf " + well + " " + what, pump.wellOf(well, what), due[well][what]);
            }
            for (int what : new int[] {-1, 4, LEAST, GREATEST}) {
                is("what " + what, pump.wellOf(well, what), BAD);
            }
        }
        for (int well : new int[] {-1, 4, LEAST, GREATEST}) {
            is("no well " + well, pump.wellOf(well, 0), NONE);
            is("no well ahead of what", pump.wellOf(well, 4), NONE);
        }
        is("all six lifted", made(SIX + ";go 1;pump 9;pump 2").wellOf(1, 3), 6);
        is("a lifting undone", made(SIX + ";go 1;pump 9;undo").wellOf(1, 3), 0);
    }

    private static void isKnown() {
        says("12: Returns 1 if it is, and 0 otherwise; NONE if there is no such sign.");
        JokePump pump = made("joke 0 1 0 1;joke 0 2 63 1;joke 0 9 62 1;pump 1");
        is("0", pump.isKnown(0), 1);
        is("63", pump.isKnown(63), 1);
        is("1", pump.isKnown(1), 0);
        is("62", pump.isKnown(62), 0);
        is("-1", pump.isKnown(-1), NONE);
        is("64", pump.isKnown(64), NONE);
        for (int sign : FAR) {
            is("no sign " + sign, pump.isKnown(sign), NONE);
        }
        is("a lifting undone", does(pump, "undo").isKnown(63), 0);
    }

    private static void laughBits() {
        says("13: how many, 0 to 50. Returns the bits of the laugh, as by Float.floatToIntBits; NONE if "
            + "there is no such joke; BAD.");
        JokePump pump = made("joke 0 1 1 1;joke 0 2 2 9;prime 1");
        is("0 groans", pump.laughBits(0, 0), Float.floatToIntBits(1f));
        is("50 groans", pump.laughBits(0, 50), Float.floatToIntBits(1f / 4.125f));
        is("primed, 0 groans", pump.laughBits(1, 0), Float.floatToIntBits(13.5f));
        is("primed, 50 groans", pump.laughBits(1, 50), Float.floatToIntBits(13.5f / 4.125f));
        for (int groans : new int[] {-1, 51, LEAST, GREATEST}) {
            is("groans " + groans, pump.laughBits(0, groans), BAD);
            is("no joke ahead of it", pump.laughBits(2, groans), NONE);
        }
        for (int joke : new int[] {-1, 2, LEAST, GREATEST}) {
            is("no joke " + joke, pump.laughBits(joke, 0), NONE);
        }
        does(pump, "pump 9");
        is("the groans as they are do not matter", made("joke 1 1 1 5;pump 9").laughBits(0, 0),
            Float.floatToIntBits(5f));
    }

    private static void laughs() {
        says("14: Returns the sum.");
        JokePump pump = new JokePump();
        is("no laughs", Float.floatToIntBits(pump.laughs()), 0);
        is("no laughs again", Float.floatToIntBits(pump.laughsAgain()), 0);
        does(pump, "joke 0 1 1 1;drop 0;pump 9");
        is("still none", Float.floatToIntBits(pump.laughs()), 0);
        says("15: by the laughs of all jokes that were lifted, as they are remembered, one after the other");
        for (int round = 0; round < 3; round++) {
            pump = made(TWELVE + ";bucket 1 5;stroke 10;prime 1;prime 6;prime 8;go 1;pump 2;go 2;pump 1"
                + (round == 1 ? ";undo;undo;undo" : round == 2 ? ";save;go 3;pump 3;restore" : ""));
            float sum = 0f;
            for (int place = pump.account(6) - 1; place >= 0; place--) {
                sum = sum + Float.intBitsToFloat(pump.liftedOf(place, 2));
            }
            DUE.is("laughs", pump.laughs(), sum);
            DUE.is("laughsAgain", pump.laughsAgain(), sum);
        }
    }

    private static void wholeLaughs() {
        says("16: Returns the sum, its part behind the point cut off.");
        is("none", new JokePump().wholeLaughs(), 0);
        String three = "stroke 4;go 1;pump 2;go 0;bucket 0 4;";
        is("0.84", made(three + "joke 0 1 1 1;pump 1").wholeLaughs(), 0);
        is("1.68", made(three + "joke 0 1 1 2;pump 1").wholeLaughs(), 1);
        is("8 and no more", made("stroke 10;pump 3;drain 8;go 1;stroke 1;joke 1 1 1 9;pump 1").wholeLaughs(), 8);
        is("6 and no more", made("pump 6;stroke 1;drain 2;go 1;joke 1 1 1 9;pump 1").wholeLaughs(), 6);
        JokePump pump = made(three + "joke 0 1 1 2;joke 0 2 2 7;joke 0 3 3 9;joke 0 4 4 1;pump 1");
        DUE.is("a little less than 16", pump.laughs() < 16f && pump.laughs() > 15.99999f, true);
        is("15", pump.wholeLaughs(), 15);
    }

    private static void liftedOf() {
        says("17: its place in the order in which they were lifted, the latest one first, from 0");
        JokePump pump = made(TWELVE + ";go 2;stroke 10;pump 1;go 1;pump 1");
        int[] signs = {1, 0, 7, 6};
        for (int place = 0; place < 4; place++) {
            is("sign", pump.liftedOf(place, 0), signs[place]);
            is("well", pump.liftedOf(place, 1), place < 2 ? 1 : 2);
        }
        for (int place : new int[] {-1, 4, LEAST, GREATEST}) {
            is("no place " + place, pump.liftedOf(place, 0), NONE);
            is("no place ahead of what", pump.liftedOf(place, 3), NONE);
        }
        for (int what : new int[] {-1, 3, LEAST, GREATEST}) {
            is("what " + what, pump.liftedOf(3, what), BAD);
        }
        does(pump, "undo");
        is("the latest one", pump.liftedOf(0, 0), 7);
        is("no place", pump.liftedOf(2, 0), NONE);
    }

    // ---- Promises 18 to 22 ----

    /** A pump at the well 0 with this reach and without groans, by strokes of 1. */
    private static JokePump reachOf(int reach) {
        JokePump pump = made("stroke 1");
        for (int i = 0; i < reach; i++) {
            does(pump, "pump 1;drain " + Math.max(1, pump.groansIn(1)));
        }
        is("reach", pump.account(3), reach);
        is("groans", pump.account(4), 0);
        return pump;
    }

    private static void strokesFromEachReach() {
        says("18, 19: how many strokes more it takes at least until the reach is as much as a depth. "
            + "Returns how many, 0 if it is");
        for (int reach = 0; reach <= 30; reach++) {
            for (int length = 1; length <= 10; length++) {
                JokePump pump = reachOf(reach);
                if (length > 1) {
                    does(pump, "stroke " + length);
                }
                for (int depth = 1; depth <= 30; depth++) {
                    int due = 0;
                    while (reach + due * length < depth) {
                        due++;
                    }
                    is("strokes from " + reach + " by " + length + " to " + depth, pump.strokes(depth), due);
                    is("strokesAgain from " + reach + " by " + length + " to " + depth,
                        pump.strokesAgain(depth), due);
                }
                is("no stroke is made", pump.account(3), reach);
            }
        }
    }

    private static void strokesOutOfRange() {
        says("18, 19: the depth, 1 to 30");
        JokePump pump = made("pump 2");
        for (int depth : new int[] {0, 31, -1, LEAST, GREATEST}) {
            is("strokes " + depth, pump.strokes(depth), BAD);
            is("strokesAgain " + depth, pump.strokesAgain(depth), BAD);
        }
        is("1", pump.strokes(1), 0);
        is("1 again", pump.strokesAgain(1), 0);
        is("30", pump.strokes(30), 8);
        is("30 again", pump.strokesAgain(30), 8);
    }

    private static void whateverGroans() {
        says("18: whatever groans there are");
        JokePump pump = made(TO_41_GROANS + ";drain 1;pump 1;stroke 1");
        is("groans", pump.account(4), 44);
        is("the reach is as much", pump.strokes(30), 0);
        is("the reach is as much, again", pump.strokesAgain(30), 0);
        does(pump, "go 1");
        for (int depth = 1; depth <= 30; depth++) {
            is("strokes to " + depth, pump.strokes(depth), depth);
            is("strokesAgain to " + depth, pump.strokesAgain(depth), depth);
        }
        is("would", pump.would(20), 0);
        isRefused("and none is made", pump, pump.pump(1), 8, 44);
    }

    private static void wouldIsDone() {
        says("20, 21: how many jokes some strokes would lift; how many groans there would be behind some strokes");
        String[] all = {SIX + ";go 1", SIX + ";go 1;stroke 1;bucket 1 1", SIX + ";go 1;stroke 10;bucket 1 5",
            SIX + ";go 1;stroke 7;bucket 1 1", SIX + ";stroke 10;pump 6;go 1",
                SIX + ";stroke 10;pump 9;go 1;bucket 1 1",
            SIX + ";" + TO_41_GROANS + ";go 1", SIX + ";" + TO_41_GROANS + ";drain 1;go 1", "pump 1",
                TWELVE + ";go 2;pump 2",
            "pump 9;joke 0 1 1 1;joke 0 2 2 2;joke 0 3 3 3;joke 0 29 4 4"};
        for (String ahead : all) {
            for (int strokes = 0; strokes <= 20; strokes++) {
                JokePump pump = made(ahead);
                int would = pump.would(strokes);
                int groans = pump.groansIn(strokes);
                int lifted = 0;
                for (int i = 0; i < strokes; i++) {
                    lifted += Math.max(0, pump.pump(1));
                }
                is("would " + strokes + " behind " + ahead, would, lifted);
                is("groansIn " + strokes + " behind " + ahead, groans, pump.account(4));
            }
            JokePump pump = made(ahead);
            pump.would(20);
            pump.groansIn(20);
            isAlike("nothing is done", pump, made(ahead));
        }
    }

    private static void wouldOutOfRange() {
        says("20, 21: how many, 0 to 20");
        JokePump pump = made("joke 0 1 1 1;pump 1;joke 0 2 2 1");
        for (int strokes : new int[] {-1, 21, LEAST, GREATEST}) {
            is("would " + strokes, pump.would(strokes), BAD);
            is("groansIn " + strokes, pump.groansIn(strokes), BAD);
        }
        is("would 0", pump.would(0), 0);
        is("groansIn 0", pump.groansIn(0), 1);
        is("would 20", pump.would(20), 1);
        is("groansIn 19", made("stroke 1").groansIn(19), 29);
        is("groansIn 20", made("stroke 1").groansIn(20), 32);
    }

    private static void bestStroke() {
        says("22: with the fewest groans, by one stroke at least, all of them of this length, from the "
            + "reach as it is; "
            + "of several the least length");
        is("no jokes", new JokePump().bestStroke(), NOTHING);
        is("none at this well", made("joke 1 1 1 1;joke 2 1 2 1;joke 3 1 3 1").bestStroke(), NOTHING);
        is("none any more", made("joke 0 1 1 1;pump 1").bestStroke(), NOTHING);
        for (int reach = 0; reach <= 30; reach++) {
            for (int depth = 1; depth <= 30; depth++) {
                JokePump pump = reachOf(reach);
                does(pump, "joke 0 " + depth + " 1 1");
                if (depth < 30) {
                    does(pump, "joke 0 30 2 1");
                }
                is("bestStroke from " + reach + " to " + depth, pump.bestStroke(), bestStroke(reach, depth));
            }
        }
    }

    private static int bestStroke(int reach, int depth) {
        int best = 0;
        int fewest = GREATEST;
        for (int length = 10; length >= 1; length--) {
            int then = reach;
            int groans = 0;
            do {
                then = Math.min(30, then + length);
                groans += 1 + then / 10;
            } while (then < depth);
            if (groans <= fewest) {
                fewest = groans;
                best = length;
            }
        }
        return best;
    }

    private static void bestStrokeWithGroans() {
        says("22: whatever groans there are");
        for (int depth = 1; depth <= 30; depth++) {
            String joke = ";joke 1 " + depth + " 1 1;go 1";
            int due = bestStroke(0, depth);
            is("33 groans", made("stroke 10;pump 9" + joke).bestStroke(), due);
            is("41 groans", made(TO_41_GROANS + joke).bestStroke(), due);
            is("44 groans", made(TO_41_GROANS + ";drain 1;pump 1" + joke).bestStroke(), due);
        }
        is("nothing, with 41 groans", made(TO_41_GROANS).bestStroke(), NOTHING);
    }

    // ---- Promises 23 to 25 ----

    private static void funniest() {
        says("23: the greatest first, of several the one that lies less deep, then the lowest");
        JokePump pump = made("joke 3 9 0 6;joke 2 8 1 9;joke 1 9 2 9;joke 0 8 3 9;joke 3 1 4 8;joke 3 30 5 "
            + "4;joke 2 2 6 6;"
            + "prime 0;prime 5");
        int[] due = {1, 3, 0, 2, 4, 6, 5};
        for (int place = 0; place < due.length; place++) {
            is("place " + place, pump.funniest(place), due[place]);
        }
        for (int place : new int[] {-1, 7, 12, LEAST, GREATEST}) {
            is("no place " + place, pump.funniest(place), NONE);
        }
        is("only one", made("joke 0 1 1 1").funniest(0), 0);
        is("no place 1", made("joke 0 1 1 1").funniest(1), NONE);
        pump = made(TWELVE);
        is("the twelfth place", pump.funniest(11), 9);
        is("no place 12", pump.funniest(12), NONE);
        does(pump, "pump 9;pump 4");
        is("with other groans", pump.funniest(0), 8);
        pump = made("joke 0 5 0 5;joke 1 5 1 5;joke 2 5 2 5;joke 3 5 3 5");
        for (int place = 0; place < 4; place++) {
            is("the lowest", pump.funniest(place), place);
        }
    }

    private static void inWell() {
        says("24: Returns the joke; NONE if there is no such well or place.");
        JokePump pump = made("joke 1 30 0 1;joke 1 1 1 1;joke 1 29 2 1;joke 1 2 3 1;joke 1 15 4 1;joke 1 16 "
            + "5 1;joke 3 7 6 1");
        int[] due = {1, 3, 4, 5, 2, 0};
        for (int place = 0; place < due.length; place++) {
            is("place " + place, pump.inWell(1, place), due[place]);
            is("of an empty well", pump.inWell(0, place), NONE);
        }
        is("place 0", pump.inWell(3, 0), 6);
        is("no place 1", pump.inWell(3, 1), NONE);
        for (int place : new int[] {-1, 6, LEAST, GREATEST}) {
            is("no place " + place, pump.inWell(1, place), NONE);
        }
        for (int well : new int[] {-1, 4, LEAST, GREATEST}) {
            is("no well " + well, pump.inWell(well, 0), NONE);
        }
    }

    private static void fullest() {
        says("25: the most first, of several the one with the greater bucket, then the lowest");
        isFullest("stroke 1", 0, 1, 2, 3);
        isFullest("bucket 3 3", 3, 0, 1, 2);
        isFullest("bucket 0 1", 1, 2, 3, 0);
        isFullest("bucket 0 5;bucket 3 5;bucket 1 1", 0, 3, 2, 1);
        isFullest("joke 2 1 1 1", 2, 0, 1, 3);
        isFullest("joke 2 1 1 1;bucket 2 1;bucket 3 5", 2, 3, 0, 1);
        isFullest("joke 2 1 1 1;joke 1 1 2 1;bucket 2 3", 2, 1, 0, 3);
        isFullest(TWELVE, 1, 2, 3, 0);
        isFullest(TWELVE + ";go 1;pump 9;pump 1;pump 1", 2, 3, 0, 1);
        JokePump pump = new JokePump();
        for (int place : new int[] {-1, 4, LEAST, GREATEST}) {
            is("no place " + place, pump.fullest(place), NONE);
        }
    }

    private static void isFullest(String calls, int... due) {
        for (int place = 0; place < 4; place++) {
            is("place " + place + " behind " + calls, made(calls).fullest(place), due[place]);
        }
    }

    // ---- Promises 26 to 29 ----

    private static void isCounted() {
        says("26: the jokes that came are those there, those lifted, and those that went");
        String[] all = {"stroke 1", TWELVE, TWELVE + ";go 1;pump 9", TWELVE + ";drop 0;drop 0;go 2;pump 2;drop 3",
            TWELVE + ";pump 9;undo;drop 0;undo;undo;undo", TWELVE + ";save;drop 3;go 1;pump 9;restore",
            "text joke 0 1 1 1,joke 0 2 2 2,drop 0,pump 1", TO_41_GROANS + ";go 1"};
        for (String calls : all) {
            JokePump pump = made(calls);
            DUE.is("counted behind " + calls, pump.isCounted(), true);
            is("came behind " + calls, pump.account(7), pump.account(0) + pump.account(6) + pump.account(8));
            is("a refused text", give(pump, "stroke 8;bucket 3 5;drop 0;drop 50"), REFUSED);
            DUE.is("counted behind it", pump.isCounted(), true);
        }
    }

    private static void meanDepth() {
        says("27: Returns the mean; 0.0 without jokes.");
        DUE.is("none", new JokePump().meanDepth(), 0.0);
        DUE.is("1", made("joke 0 1 1 1").meanDepth(), 1.0);
        DUE.is("30", made("joke 0 30 1 1").meanDepth(), 30.0);
        DUE.is("a third", made("joke 0 1 1 1;joke 0 2 2 1;joke 1 1 3 1").meanDepth(), 4.0 / 3.0);
        DUE.is("a seventh", made("joke 0 1 1 1;joke 0 2 2 1;joke 1 1 3 1;joke 1 2 4 1;joke 2 1 5 1;joke 2 2 "
            + "6 1;joke 3 1 7 1")
            .meanDepth(), 10.0 / 7.0);
        DUE.is("twelve", made(TWELVE).meanDepth(), 182.0 / 12.0);
        DUE.is("none any more", made("joke 0 1 1 1;drop 0").meanDepth(), 0.0);
        DUE.is("lifted", made("joke 0 1 1 1;joke 0 9 2 1;pump 1").meanDepth(), 9.0);
    }

    private static void knownShare() {
        says("28: Returns the share.");
        JokePump pump = made("bucket 0 4;stroke 4");
        for (int known = 0; known < 64; known += 4) {
            DUE.is("share", pump.knownShare(), (float) known / 64f);
            for (int i = 1; i <= 4; i++) {
                is("joke", pump.joke(0, i, known + i - 1, i), i - 1);
            }
            is("lifted", pump.pump(1), 4);
            is("drain", pump.drain(Math.min(50, pump.account(4))), 9);
        }
        DUE.is("all", pump.knownShare(), 1f);
        is("64 lifted", pump.account(6), 64);
        is("the first one", pump.liftedOf(63, 0), 0);
        is("no place 64", pump.liftedOf(64, 0), NONE);
        for (int sign = 0; sign < 64; sign++) {
            isRefused("none comes any more", pump, pump.joke(1, 1, sign, 1), 3, sign);
        }
        DUE.is("counted", pump.isCounted(), true);
    }

    private static void account() {
        says("29: Returns the account; BAD.");
        JokePump pump = made(TWELVE + ";prime 1;prime 11;go 1;stroke 10;pump 3;drain 8;drop 0;stroke 1");
        int[] due = {5, 1, 1, 30, 1, 7, 6, 12, 1, 3, 8, 1, 0, 8};
        for (int what = 0; what < due.length; what++) {
            is("account " + what, pump.account(what), due[what]);
        }
        for (int what : new int[] {-1, 14, LEAST, GREATEST}) {
            is("account " + what, pump.account(what), BAD);
        }
        is("strokes that are left out are not made", made("stroke 10;pump 9;pump 9").account(9), 11);
        is("a refused draining drains nothing", pump.drain(2) + pump.account(10), REFUSED + 8);
        pump.append(' ');
        is("characters", pump.account(12), 1);
        is("a primed joke goes", made("joke 0 1 1 1;prime 0;drop 0").account(11), 0);
        is("a primed joke is lifted", made("joke 0 1 1 1;prime 0;pump 1").account(11), 0);
    }

    // ---- Promises 30 to 36 ----

    private static void write() {
        says("30: Returns the length of the line; NONE if there is no such well.");
        JokePump pump = made("joke 2 4 60 1;joke 2 12 7 1;bucket 2 3;prime 0");
        isLine(pump, pump.write(2), "2u3 4:60! 12:7");
        for (int well : new int[] {-1, 4, LEAST, GREATEST}) {
            is("write " + well, pump.write(well), NONE);
            isLine(pump, 14, "2u3 4:60! 12:7");
        }
        isLine(pump, pump.write(0), "0u2");
        isLine(pump, pump.write(3), "3u2");
        pump = made("joke 0 30 63 1;joke 0 9 9 1;joke 0 10 10 1;joke 0 1 0 1;joke 0 29 1 1;joke 0 11 62 1;bucket 0 5;"
            + "prime 0;prime 1;prime 2;prime 3;prime 4;prime 5");
        isLine(pump, pump.write(0), "0u5 1:0! 9:9! 10:10! 11:62! 29:1! 30:63!");
        does(pump, "drop 0");
        isLine(pump, 40, "0u5 1:0! 9:9! 10:10! 11:62! 29:1! 30:63!");
        isLine(pump, pump.write(0), "0u5 1:0! 9:9! 10:10! 11:62! 29:1!");
    }

    private static void isLine(JokePump pump, int length, String due) {
        is("length of " + due, length, due.length());
        DUE.is("line", line(pump, due.length()), due);
    }

    private static void writePump() {
        says("31: Writes the pump, in place of the line before");
        JokePump pump = made("joke 1 30 1 1;joke 1 29 2 1");
        is("a longer line", pump.write(1), 13);
        isLine(pump, pump.writePump(), "@0^3~0o0*9");
        does(pump, "prime 0;go 1;pump 4;drain 1;pump 1");
        isLine(pump, pump.writePump(), "@1^3~15o6*8");
        pump = made("joke 1 30 1 1;prime 0;go 1;pump 4");
        isLine(pump, pump.writePump(), "@1^3~12o5*8");
        pump = made("stroke 10;pump 1");
        isLine(pump, pump.writePump(), "@0^10~10o2*9");
        pump = made("go 3;" + TO_41_GROANS + ";drain 1;pump 1");
        isLine(pump, pump.writePump(), "@3^10~30o44*9");
        pump = made("stroke 9;pump 1");
        isLine(pump, pump.writePump(), "@0^9~9o1*9");
        pump = made(TWELVE + ";prime 0;prime 1;prime 2;prime 3;prime 4;prime 5;prime 6;prime 7;prime 8;"
            + "stroke 10;pump 4");
        isLine(pump, pump.writePump(), "@0^10~30o13*0");
    }

    private static void written() {
        says("32: Returns the character; NONE if there is none.");
        JokePump pump = new JokePump();
        for (int index : new int[] {0, -1, 1, LEAST, GREATEST}) {
            is("no line, index " + index, pump.written(index), NONE);
        }
        is("write", pump.write(1), 3);
        is("first", pump.written(0), '1');
        is("last", pump.written(2), '2');
        for (int index : new int[] {3, -1, 59, 60, 61, LEAST, GREATEST}) {
            is("index " + index, pump.written(index), NONE);
        }
        pump.append('x');
        is("the input is no line", pump.written(0), '1');
        is("longer", pump.writePump(), 10);
        is("last", pump.written(9), '9');
        is("behind it", pump.written(10), NONE);
        is("shorter", pump.write(2), 3);
        is("behind it", pump.written(3), NONE);
    }

    private static void append() {
        says("33: the character, with a code from 32 to 126. Returns the length of the input then; BAD; "
            + "FULL if there are 60.");
        for (int code = 0; code <= 300; code++) {
            JokePump pump = new JokePump();
            boolean isIn = code >= 32 && code <= 126;
            is("code " + code, pump.append((char) code), isIn ? 1 : BAD);
            is("characters", pump.account(12), isIn ? 1 : 0);
        }
        is("the last code", new JokePump().append((char) 0xFFFF), BAD);
        JokePump pump = new JokePump();
        for (int length = 1; length <= 60; length++) {
            is("append", pump.append((char) (32 + length)), length);
        }
        is("61", pump.append(' '), FULL);
        is("BAD ahead of FULL", pump.append((char) 31), BAD);
        is("BAD ahead of FULL", pump.append((char) 127), BAD);
        is("characters", pump.account(12), 60);
    }

    private static void read() {
        says("34: The input is empty then, whatever is returned.");
        JokePump pump = new JokePump();
        is("an empty input", pump.read(), BAD);
        is("fault", pump.fault(), 0);
        is("one command", give(pump, "go 1"), 1);
        is("empty", pump.account(12), 0);
        is("one that is refused", give(pump, "go 1"), REFUSED);
        is("empty", pump.account(12), 0);
        is("one with a fault", give(pump, "go 1;"), BAD);
        is("empty", pump.account(12), 0);
        is("fault", pump.fault(), 5);
        is("one with a number out of range", give(pump, "go 2;go 9"), REFUSED);
        is("empty", pump.account(12), 0);
        is("well", pump.account(1), 1);
        is("an empty input", pump.read(), BAD);
        is("fault", pump.fault(), 0);
        is("three commands", give(pump, "go 2;stroke 4;go 3"), 3);
        is("changes", pump.account(13), 2);
    }

    private static void fault() {
        says("35: Returns the position; STATE if none was kept.");
        JokePump pump = new JokePump();
        is("none", pump.fault(), STATE);
        is("a text", give(pump, "go 1"), 1);
        is("none", pump.fault(), STATE);
        is("refused", give(pump, "go 1"), REFUSED);
        is("none", pump.fault(), STATE);
        is("a fault at 0", give(pump, "?"), BAD);
        is("0", pump.fault(), 0);
        is("a fault at 60", give(pump, "go 1;go 2;go 1;go 2;go 1;go 2;go 1;go 2;go 1;go 2;go 1;go 2;"), BAD);
        is("60", pump.fault(), 60);
        is("a text", give(pump, "go 2"), 1);
        is("refused", give(pump, "go 2"), REFUSED);
        does(pump, "undo;save;restore");
        is("60", pump.fault(), 60);
        is("a fault at 4", give(pump, "go 2?"), BAD);
        is("4", pump.fault(), 4);
    }

    private static void reason() {
        says("36: Returns the number; BAD if the depth is not from 0 to 1; STATE if nothing was refused; "
            + "NOTHING if nothing lies there.");
        JokePump pump = new JokePump();
        int[] wrong = {-1, 2, LEAST, GREATEST};
        for (int depth : wrong) {
            is("depth " + depth, pump.reason(depth, false), BAD);
            is("depth " + depth, pump.reason(depth, true), BAD);
        }
        is("no such joke is no reason", pump.prime(0), NONE);
        is("out of range is no reason", pump.pump(0), BAD);
        is("a fault is no reason", give(pump, "go"), BAD);
        is("nothing saved is no reason", pump.restore(), STATE);
        for (int depth = 0; depth <= 1; depth++) {
            is("nothing was refused", pump.reason(depth, false), STATE);
            is("nothing was refused", pump.reason(depth, true), STATE);
        }
        isRefused("go", pump, pump.go(0), 5, 0);
        is("text", give(pump, "go 1;go 1"), REFUSED);
        hasReason("text", pump, 9, 1, 5, 1);
        for (int depth : wrong) {
            is("depth " + depth, pump.reason(depth, false), BAD);
            is("depth " + depth, pump.reason(depth, true), BAD);
        }
    }

    // ---- Promises 37 to 39 ----

    private static void undo() {
        says("37: Returns the number of changes that can still be undone; STATE if there is none.");
        JokePump pump = new JokePump();
        is("none", pump.undo(), STATE);
        does(pump, "go 1");
        is("one", pump.undo(), 0);
        is("none", pump.undo(), STATE);
        is("refused", pump.go(0), REFUSED);
        is("none", pump.undo(), STATE);
        is("a fault", pump.read(), BAD);
        is("none", pump.undo(), STATE);
        isAlike(TWELVE + ";go 1;pump 9;drain 10;prime 1;undo;undo;undo;undo", TWELVE);
        isAlike("save;pump 1;undo", "stroke 1;undo");
        isAlike(SIX + ";go 1;pump 9;prime 0;text drop 0,stroke 10;undo;undo;undo", SIX + ";go 1");
    }

    private static void save() {
        says("38: Saves everything that can be undone, in place of what was saved before. Returns the "
            + "number of jokes.");
        JokePump pump = new JokePump();
        is("no jokes", pump.save(), 0);
        does(pump, TWELVE);
        is("undone", pump.undo(), 7);
        is("eleven", pump.save(), 11);
        is("twelve", does(pump, "joke 0 30 11 3").save(), 12);
        is("drop", pump.drop(0), 11);
        is("twelve", pump.restore(), 12);
        is("saved once more", does(pump, "drop 0;drop 0").save(), 10);
        is("ten", does(pump, "undo").restore(), 10);
        isAlike("all of it", pump, made(TWELVE + ";drop 0;drop 0;save;restore"));
        String busy = TWELVE + ";prime 3;stroke 10;bucket 1 5;go 1;pump 3;drain 7;drop 2;go 3";
        isAlike(busy + ";save;go 0;pump 9;pump 1;bucket 1 1;stroke 1;joke 0 1 50 9;prime 0;drop 1;text drop "
            + "0,drop 0;restore", busy);
        isAlike(busy + ";save;undo;undo;undo;undo;restore", busy);
        isAlike(busy + ";undo;save;pump 1;restore", busy + ";undo");
        String lifted = "joke 0 1 1 1;joke 1 2 2 2;pump 1";
        isAlike(lifted + ";save;undo;go 1;pump 1;restore", lifted);
    }

    private static void restore() {
        says("39: Restores what was saved, which stays saved. Nothing can be undone then. Returns the "
            + "number of jokes; STATE if nothing was saved.");
        JokePump pump = made("joke 0 1 1 1");
        is("nothing saved", pump.restore(), STATE);
        is("changes", pump.account(13), 1);
        is("save", pump.save(), 1);
        is("changes", pump.account(13), 1);
        is("restore at once", pump.restore(), 1);
        is("changes", pump.account(13), 0);
        is("nothing can be undone", pump.undo(), STATE);
        for (int round = 0; round < 3; round++) {
            does(pump, "drop 0;go 1;joke 1 1 1 2;prime 0;pump 1;drain 1;stroke 10;bucket 1 1;pump 9;pump 2");
            is("changes", pump.account(13), 8);
            is("no joke", pump.account(0), 0);
            is("it stays saved", pump.restore(), 1);
            is("nothing can be undone", pump.undo(), STATE);
            is("wit", pump.jokeOf(0, 3), 1);
        }
        is("a change behind it", does(pump, "pump 1").account(13), 1);
        is("is undone", pump.undo(), 0);
        isAlike("as saved", pump, made("joke 0 1 1 1;save;restore"));
    }

    private static void theLast512() {
        says("An object is used for at most 512 calls after it has been made");
        JokePump pump = new JokePump();
        for (int made = 0; made < 502; made++) {
            is("go", pump.go((made + 1) % 4), made % 4);
        }
        is("503rd", pump.account(1), 2);
        for (int left = 7; left >= 0; left--) {
            is("undo", pump.undo(), left);
        }
        is("512th", pump.account(1), 2);
    }
}
