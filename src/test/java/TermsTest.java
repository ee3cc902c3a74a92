/** The sentences of the document's "Terms" that name a boundary, one after the other. */
public final class TermsTest extends PumpCheck {
    private static final String SIX = "joke 1 1 0 1;joke 1 6 1 1;joke 1 12 2 1;joke 1 18 3 1;joke 1 24 4 1;"
        + "joke 1 30 5 1";
    private static final String TWELVE = SIX
        + ";joke 2 1 6 1;joke 2 6 7 1;joke 2 12 8 1;joke 3 18 9 1;joke 3 24 10 1;joke 0 30 11 1";
    // Eleven strokes of 10: the reach is 30, and the groans are 2, 5, 9, 13, up to 41.
    private static final String TO_41_GROANS = "stroke 10;pump 9;pump 2";

    public static void main(String[] args) {
        liftedOnce();
        divisions();
        wells();
        buckets();
        sixInAWell();
        depths();
        twelve();
        numbersOfJokes();
        signAndWit();
        signs();
        standsAtFirst();
        strokeAndReach();
        reachUpTo30();
        groansOfAStroke();
        moreThan40Groans();
        move();
        lifting();
        bucketIsFull();
        laughOfAJoke();
        sumOfLaughs();
        priming();
        draining();
        DUE.finish("TermsTest");
    }

    // ---- It, and wells ----

    private static void liftedOnce() {
        says("A joke lifted is never lifted again.");
        JokePump pump = made("joke 0 3 7 9;joke 0 4 8 9");
        is("lifts it", pump.pump(1), 1);
        is("lifts the other", pump.pump(1), 1);
        is("lifts none", pump.pump(1), 0);
        is("lifted", pump.account(6), 2);
        is("jokes", pump.account(0), 0);
        isRefused("it does not come again", pump, pump.joke(0, 3, 7, 9), 3, 7);
    }

    private static void divisions() {
        says("All divisions of integers are rounded down.");
        for (int reach = 1; reach <= 30; reach++) {
            JokePump pump = reachOf(reach - 1);
            does(pump, "drain " + pump.account(4));
            does(pump, "pump 1");
            int tens = reach < 10 ? 0 : reach < 20 ? 1 : reach < 30 ? 2 : 3;
            is("groans of a stroke to " + reach, pump.account(4), 1 + tens);
        }
    }

    /** A pump whose reach is that, 1 more than 0 by strokes of 1, with 1 groan at least. */
    private static JokePump reachOf(int reach) {
        JokePump pump = made("pump 1;go 1;go 0;stroke 1");
        for (int i = 0; i < reach; i++) {
            does(pump, "pump 1");
            if (pump.account(4) > 30) {
                does(pump, "drain 30");
            }
        }
        is("reach", pump.account(3), reach);
        return pump;
    }

    private static void wells() {
        says("There are the wells 0 to 3");
        JokePump pump = new JokePump();
        for (int well : new int[] {-1, 4, 5, LEAST, GREATEST}) {
            is("joke " + well, pump.joke(well, 1, 1, 1), NONE);
            is("wellOf " + well, pump.wellOf(well, 0), NONE);
            is("bucket " + well, pump.bucket(well, 3), NONE);
            is("go " + well, pump.go(well), NONE);
            is("inWell " + well, pump.inWell(well, 0), NONE);
            is("write " + well, pump.write(well), NONE);
        }
        is("no change", pump.account(13), 0);
        for (int well = 3; well >= 0; well--) {
            is("joke " + well, pump.joke(well, 1, well, 1), 3 - well);
            is("wellOf " + well, pump.wellOf(well, 1), 1);
            is("bucket " + well, pump.bucket(well, 3), 2);
            is("go " + well, pump.go(well), well == 3 ? 0 : well + 1);
            is("inWell " + well, pump.inWell(well, 0), 3 - well);
            is("write " + well, pump.write(well), 7);
        }
        for (int well = 4; well <= 9; well++) {
            isTextRefused("go 1", "go " + well, 0, NOTHING, NOTHING);
            isTextRefused("go 1", "bucket " + well + " 1", 0, NOTHING, NOTHING);
            isTextRefused("go 1", "joke " + well + " 1 1 1", 0, NOTHING, NOTHING);
        }
    }

    private static void buckets() {
        says("each with a bucket that holds from 1 to 5 jokes, at first 2");
        for (int well = 0; well < 4; well++) {
            JokePump pump = new JokePump();
            is("at first", pump.wellOf(well, 0), 2);
            is("too small", pump.bucket(well, 0), BAD);
            is("too large", pump.bucket(well, 6), BAD);
            is("least", pump.bucket(well, LEAST), BAD);
            is("greatest", pump.bucket(well, GREATEST), BAD);
            is("still", pump.wellOf(well, 0), 2);
            int[] sizes = {1, 3, 4, 5, 2};
            int before = 2;
            for (int size : sizes) {
                is("bucket " + size, pump.bucket(well, size), before);
                is("holds", pump.wellOf(well, 0), size);
                before = size;
            }
            for (int other = 0; other < 4; other++) {
                is("others", pump.wellOf(other, 0), 2);
            }
        }
    }

    private static void sixInAWell() {
        says("In a well lie jokes, at most 6");
        JokePump pump = made(SIX);
        is("six", pump.wellOf(1, 1), 6);
        isRefused("a seventh", pump, pump.joke(1, 2, 20, 1), 1, 6);
        is("in another", pump.joke(0, 2, 20, 1), 6);
        is("one goes", pump.drop(5), 6);
        is("a sixth again", pump.joke(1, 2, 21, 1), 6);
        isRefused("a seventh", pump, pump.joke(1, 3, 22, 1), 1, 6);
        does(pump, "go 1;pump 1");
        is("two were lifted", pump.wellOf(1, 1), 4);
        is("a fifth", pump.joke(1, 3, 22, 1), 5);
        is("a sixth", pump.joke(1, 4, 23, 1), 6);
        isRefused("a seventh", pump, pump.joke(1, 5, 24, 1), 1, 6);
    }

    private static void depths() {
        says("each at a depth of its own from 1 to 30");
        JokePump pump = new JokePump();
        int[] wrong = {0, 31, -1, LEAST, GREATEST};
        for (int depth : wrong) {
            is("depth " + depth, pump.joke(0, depth, 1, 1), BAD);
        }
        is("nothing came", pump.account(0), 0);
        is("1", pump.joke(0, 1, 1, 1), 0);
        is("30", pump.joke(0, 30, 30, 1), 1);
        isRefused("1 again", pump, pump.joke(0, 1, 2, 1), 2, 0);
        isRefused("30 again", pump, pump.joke(0, 30, 2, 1), 2, 1);
        is("1 elsewhere", pump.joke(1, 1, 2, 1), 2);
        is("goes", pump.drop(1), 2);
        is("30 once more", pump.joke(0, 30, 30, 1), 2);
        is("lifted", pump.pump(1), 1);
        is("1 once more", pump.joke(0, 1, 3, 1), 2);
        isTextRefused("pump 1", "joke 0 0 1 1", 0, NOTHING, NOTHING);
        isTextRefused("pump 1", "joke 0 31 1 1", 0, NOTHING, NOTHING);
        isTextRefused("pump 1", "joke 0 00 1 1", 0, NOTHING, NOTHING);
        isAlike("text joke 0 01 1 1,joke 0 30 2 1", "joke 0 1 1 1;joke 0 30 2 1");
    }

    // ---- Jokes ----

    private static void twelve() {
        says("At most 12 jokes are there, in wells");
        JokePump pump = made(TWELVE);
        is("twelve", pump.account(0), 12);
        for (int well = 0; well < 4; well++) {
            isRefused("a thirteenth", pump, pump.joke(well, 29, 20, 1), 1, 12);
        }
        is("one goes", pump.drop(11), 11);
        is("a twelfth", pump.joke(0, 29, 20, 1), 11);
        isRefused("a thirteenth", pump, pump.joke(0, 28, 21, 1), 1, 12);
        does(pump, "go 2;pump 1");
        is("one was lifted", pump.account(0), 11);
        is("a twelfth", pump.joke(0, 28, 21, 1), 11);
        isRefused("a thirteenth", pump, pump.joke(0, 27, 22, 1), 1, 12);
    }

    private static void numbersOfJokes() {
        says("numbered from 0 in the order in which they came; when one goes, the numbers of the later ones "
            + "become 1 less");
        for (int gone = 0; gone < 12; gone++) {
            JokePump pump = made(TWELVE + ";prime " + (gone + 5) % 12);
            is("drop " + gone, pump.drop(gone), 11);
            for (int joke = 0; joke < 11; joke++) {
                int before = joke < gone ? joke : joke + 1;
                is("sign", pump.jokeOf(joke, 2), before);
                is("primed", pump.jokeOf(joke, 4), before == (gone + 5) % 12 ? 1 : 0);
            }
            is("none", pump.jokeOf(11, 2), NONE);
            is("the next is the last", pump.joke(0, 1, 40, 1), 11);
        }
        JokePump pump = made("joke 0 9 0 1;joke 0 2 1 1;joke 1 2 2 1;joke 0 1 3 1;joke 1 1 4 1;pump 1");
        int[] left = {0, 2, 4};
        for (int joke = 0; joke < left.length; joke++) {
            is("behind two that were lifted", pump.jokeOf(joke, 2), left[joke]);
        }
        is("none", pump.jokeOf(3, 2), NONE);
        isAlike("joke 0 9 0 1;joke 1 9 1 1;joke 2 9 2 1;text drop 0,drop 0",
            "joke 0 9 0 1;joke 1 9 1 1;joke 2 9 2 1;drop 1;drop 0");
    }

    private static void signAndWit() {
        says("A joke has a sign, 0 to 63, a wit from 1 to 9, and is primed, or not, as at first.");
        JokePump pump = new JokePump();
        for (int sign : new int[] {-1, 64, LEAST, GREATEST}) {
            is("sign " + sign, pump.joke(0, 1, sign, 1), BAD);
            is("isKnown " + sign, pump.isKnown(sign), NONE);
        }
        for (int wit : new int[] {0, 10, -1, LEAST, GREATEST}) {
            is("wit " + wit, pump.joke(0, 1, 1, wit), BAD);
        }
        is("the least", pump.joke(0, 1, 0, 1), 0);
        is("the greatest", pump.joke(0, 2, 63, 9), 1);
        is("sign 0", pump.jokeOf(0, 2), 0);
        is("wit 1", pump.jokeOf(0, 3), 1);
        is("sign 63", pump.jokeOf(1, 2), 63);
        is("wit 9", pump.jokeOf(1, 3), 9);
        is("not primed at first", pump.jokeOf(0, 4) + pump.jokeOf(1, 4), 0);
        for (int gone = 0; gone < 12; gone++) {
            pump = made(TWELVE + ";prime 11;prime " + (gone == 11 ? 10 : gone) + ";drop " + gone + ";joke 0 1 50 1");
            is("not primed at first, where primed ones were", pump.jokeOf(11, 4), 0);
        }
        isTextRefused("go 1", "joke 0 1 64 1", 0, NOTHING, NOTHING);
        isTextRefused("go 1", "joke 0 1 99 1", 0, NOTHING, NOTHING);
        isTextRefused("go 1", "joke 0 1 1 0", 0, NOTHING, NOTHING);
        isAlike("text joke 0 1 63 9,joke 0 2 00 1", "joke 0 1 63 9;joke 0 2 0 1");
    }

    private static void signs() {
        says("A joke that was lifted is told, and its sign is known then; no joke with a sign that is "
            + "known, or that another joke has, comes to a well.");
        JokePump pump = made("joke 0 3 0 5;joke 0 4 63 5;joke 2 3 1 5");
        is("not yet", pump.isKnown(0), 0);
        does(pump, "pump 1");
        is("known", pump.isKnown(0), 1);
        is("not yet", pump.isKnown(63), 0);
        does(pump, "pump 1");
        is("known", pump.isKnown(63), 1);
        is("one that lies there", pump.isKnown(1), 0);
        for (int well = 0; well < 4; well++) {
            isRefused("known", pump, pump.joke(well, 20, 0, 5), 3, 0);
            isRefused("known", pump, pump.joke(well, 20, 63, 5), 3, 63);
            isRefused("another has it", pump, pump.joke(well, 20, 1, 5), 4, 0);
        }
        is("another one", pump.joke(0, 20, 2, 5), 1);
    }

    // ---- The pump ----

    private static void standsAtFirst() {
        says("The pump stands at a well, at first at the well 0. Its stroke is from 1 to 10 long, at first 3. "
            + "It has a reach, from 0 to 30, at first 0, and groans, from 0 to 50, at first none.");
        JokePump pump = new JokePump();
        is("well", pump.account(1), 0);
        is("stroke", pump.account(2), 3);
        is("reach", pump.account(3), 0);
        is("groans", pump.account(4), 0);
        for (int length : new int[] {0, 11, -1, LEAST, GREATEST}) {
            is("stroke " + length, pump.stroke(length), BAD);
        }
        int before = 3;
        for (int length = 1; length <= 10; length++) {
            if (length != 3) {
                is("stroke " + length, pump.stroke(length), before);
                is("length", pump.account(2), length);
                before = length;
            }
        }
        isTextRefused("go 1", "stroke 0", 0, NOTHING, NOTHING);
        isTextRefused("go 1", "stroke 00", 0, NOTHING, NOTHING);
        isTextRefused("go 1", "stroke 11", 0, NOTHING, NOTHING);
        isAlike("text stroke 10,stroke 01", "stroke 10;stroke 1");
    }

    private static void strokeAndReach() {
        says("With each stroke its reach becomes as much more as the stroke is long");
        for (int length = 1; length <= 10; length++) {
            JokePump pump = made("stroke 9;stroke " + (length == 9 ? "8;stroke 9" : length));
            for (int strokes = 1; strokes <= 9 && strokes * length <= 30; strokes++) {
                does(pump, "pump 1");
                is("reach of " + strokes + " of " + length, pump.account(3), strokes * length);
            }
        }
        is("strokes of two lengths", made("pump 2;stroke 7;pump 1").account(3), 13);
    }

    private static void reachUpTo30() {
        says("With each stroke its reach becomes as much more as the stroke is long, up to 30");
        is("27 and 3", made("pump 9;stroke 1;stroke 3;pump 1").account(3), 30);
        is("29 and 1", made("stroke 10;pump 2;stroke 9;pump 1;stroke 1;pump 1").account(3), 30);
        is("29 and 2", made("stroke 10;pump 2;stroke 9;pump 1;stroke 2;pump 1").account(3), 30);
        is("20 and 10", made("stroke 10;pump 3").account(3), 30);
        is("21 and 10", made("stroke 1;pump 1;stroke 10;pump 3").account(3), 30);
        is("30 and 10", made("stroke 10;pump 4").account(3), 30);
        is("30 and 1", made("stroke 10;pump 3;stroke 1;pump 1").account(3), 30);
    }

    private static void groansOfAStroke() {
        says("and its groans become 1 more, and as many more as the reach is then, divided by 10");
        is("to 9", made("stroke 9;pump 1").account(4), 1);
        is("to 10", made("stroke 10;pump 1").account(4), 2);
        is("to 9 and 18", made("stroke 9;pump 2").account(4), 3);
        is("to 9 and 19", made("stroke 9;pump 1;stroke 10;pump 1").account(4), 3);
        is("to 10 and 20", made("stroke 10;pump 2").account(4), 5);
        is("to 9, 19 and 29", made("stroke 9;pump 1;stroke 10;pump 2").account(4), 6);
        is("to 10, 20 and 30", made("stroke 10;pump 3").account(4), 9);
        is("to 30 once more", made("stroke 10;pump 4").account(4), 13);
        is("from a reach of 0 again", made("stroke 10;pump 4;go 1;stroke 1;pump 1").account(4), 14);
    }

    private static void moreThan40Groans() {
        says("With more than 40 groans it does not pump any more.");
        JokePump pump = made(TO_41_GROANS);
        is("groans", pump.account(4), 41);
        isRefused("41", pump, pump.pump(1), 8, 41);
        is("strokes", pump.account(9), 11);
        does(pump, "drain 1;pump 1");
        is("40 and 4", pump.account(4), 44);
        is("strokes", pump.account(9), 12);
        isRefused("44", pump, pump.pump(9), 8, 44);
        does(pump, "go 1");
        isRefused("44 at another well", pump, pump.pump(1), 8, 44);
        does(pump, "drain 4;stroke 1;pump 1");
        is("40 and 1", pump.account(4), 41);
        isRefused(TO_41_GROANS, "pump 9", 8, 41);
        isTextRefused(TO_41_GROANS, "pump 1", 0, 8, 41);
        isTextRefused(TO_41_GROANS, "drain 1;pump 1;pump 1", 2, 8, 44);
    }

    private static void move() {
        says("To move the pump to another well makes its reach 0.");
        JokePump pump = made("joke 0 1 1 1;joke 1 3 2 1;pump 2");
        isRefused("to the same", pump, pump.go(0), 5, 0);
        is("reach stays", pump.account(3), 6);
        is("to another", pump.go(1), 0);
        is("reach", pump.account(3), 0);
        is("groans stay", pump.account(4), 2);
        is("the stroke stays", pump.account(2), 3);
        is("one stroke reaches 3", pump.pump(1), 1);
        is("back", pump.go(0), 1);
        is("reach", pump.account(3), 0);
        isAlike("pump 5;text go 3,go 0", "pump 5;go 3;go 0");
        is("there and back", made("pump 5;text go 3,go 0").account(3), 0);
    }

    // ---- Lifting ----

    private static void lifting() {
        says("Behind each stroke, jokes of the well that lie at the reach or less deep are lifted");
        for (int reach = 1; reach <= 30; reach++) {
            JokePump pump = reachOf(reach - 1);
            if (reach < 30) {
                does(pump, "joke 0 " + (reach + 1) + " 1 1");
            }
            does(pump, "joke 0 " + reach + " 2 1;joke 1 " + reach + " 3 1");
            is("at the reach of " + reach, pump.pump(1), 1);
            is("its sign", pump.liftedOf(0, 0), 2);
        }
        is("less deep", made("joke 0 1 1 1;pump 1").account(6), 1);
        is("1 deeper", made("joke 0 4 1 1;pump 1").account(6), 0);
        is("in another well", made("joke 1 1 1 1;joke 2 1 2 1;joke 3 1 3 1;pump 9").account(6), 0);
        is("it came within the reach", made("pump 2;joke 0 1 1 1;pump 1").account(6), 1);
        is("no stroke lifts nothing", made("pump 2;joke 0 1 1 1;stroke 10").account(6), 0);
    }

    private static void bucketIsFull() {
        says("the least deep first, as many as the bucket holds at most");
        String jokes = "joke 0 5 50 1;joke 0 3 30 1;joke 0 6 60 1;joke 0 1 10 1;joke 0 4 40 1;joke 0 2 20 1";
        for (int size = 1; size <= 5; size++) {
            JokePump pump = made(jokes + (size == 2 ? "" : ";bucket 0 " + size) + ";stroke 6");
            int lifted = 0;
            for (int stroke = 1; stroke <= 7; stroke++) {
                int due = Math.min(size, 6 - lifted);
                is("stroke " + stroke + " with " + size, pump.pump(1), due);
                for (int place = 0; place < due; place++) {
                    is("the deepest is the latest", pump.liftedOf(place, 0), 10 * (lifted + due - place));
                }
                lifted += due;
            }
            is("all", pump.account(6), 6);
            is("none behind them", pump.liftedOf(6, 0), NONE);
        }
    }

    private static void laughOfAJoke() {
        says("The laugh of a joke that is lifted is its wit as a float, times 1.5 if it is primed, and divided by 1 "
            + "and the groans behind the stroke divided by 16, together, all of it in floats.");
        for (int wit = 1; wit <= 9; wit++) {
            for (int round = 0; round < 2; round++) {
                JokePump pump = made("joke 1 30 5 " + wit + ";stroke 10;pump 6" + (round == 1 ? ";prime "
                    + "0" : "") + ";go 1;pump 3");
                is("groans behind it", pump.account(4), 30);
                float due = (float) wit * (round == 1 ? 1.5f : 1f) / (1f + 30f / 16f);
                is("laugh", pump.liftedOf(0, 2), Float.floatToIntBits(due));
                DUE.is("laughs", pump.laughs(), due);
            }
        }
        for (int ahead = 0; ahead <= 40; ahead++) {
            JokePump pump = groansOf(ahead);
            does(pump, "go 1;joke 1 1 1 7;pump 1");
            float due = 7f / (1f + (float) (ahead + 1) / 16f);
            is("laugh with " + (ahead + 1), pump.liftedOf(0, 2), Float.floatToIntBits(due));
        }
    }

    /** A pump with a stroke of 1, at the well 0, with so many groans, up to 40. */
    private static JokePump groansOf(int groans) {
        JokePump pump = made(TO_41_GROANS + ";stroke 1");
        does(pump, "drain " + (41 - groans));
        is("groans", pump.account(4), groans);
        return pump;
    }

    private static void sumOfLaughs() {
        says("All laughs so far are summed up in a float, one after the other, from 0 on.");
        DUE.is("none", new JokePump().laughs(), 0f);
        String ahead = "bucket 0 4;stroke 4;go 1;pump 2;go 0;joke 0 1 1 2;joke 0 2 2 7;joke 0 3 3 9;joke 0 "
            + "4 4 1;pump 1";
        JokePump pump = made(ahead);
        is("groans", pump.account(4), 3);
        float sum = 0f;
        double exact = 0.0;
        for (float wit : new float[] {2f, 7f, 9f, 1f}) {
            sum = sum + wit / 1.1875f;
            exact = exact + wit / 1.1875f;
        }
        DUE.is("floats tell another sum than doubles", sum == (float) exact, false);
        DUE.is("laughs", pump.laughs(), sum);
        DUE.is("laughsAgain", pump.laughsAgain(), sum);
        is("wholeLaughs, a little less than 16", pump.wholeLaughs(), 15);
        for (int turn = 0; turn < 8; turn++) {
            does(pump, "joke 0 1 " + (10 + turn) + " " + (1 + turn) + ";pump 1");
            sum = sum + (float) (1 + turn) / (1f + (float) pump.account(4) / 16f);
            DUE.is("laughs", pump.laughs(), sum);
            DUE.is("laughsAgain", pump.laughsAgain(), sum);
        }
    }

    // ---- Priming ----

    private static void priming() {
        says("To prime a joke, which takes a drop of the 9 drops that are there at first, makes it primed.");
        JokePump pump = made(TWELVE);
        is("at first", pump.account(5), 9);
        for (int joke = 0; joke < 9; joke++) {
            is("not yet", pump.jokeOf(joke, 4), 0);
            is("prime", pump.prime(joke), 8 - joke);
            is("primed", pump.jokeOf(joke, 4), 1);
            is("the next one is not", pump.jokeOf(joke + 1, 4), 0);
            is("drops", pump.account(5), 8 - joke);
        }
        isRefused("no drop", pump, pump.prime(9), 6, 0);
        is("not primed", pump.jokeOf(9, 4), 0);
        is("primed ones", pump.account(11), 9);
        is("one goes", pump.drop(0), 11);
        is("its drop does not come back", pump.account(5), 0);
        does(pump, "pump 9;drain 10");
        is("a drop is brought", pump.account(5), 1);
        is("the last one", pump.prime(8), 0);
        isRefused("no drop, with groans", pump, pump.prime(9), 6, pump.account(4));
    }

    private static void draining() {
        says("To drain makes the groans some fewer, and brings a drop for each full 10 groans that are "
            + "drained, up to 9 drops.");
        String spent = ";prime 0;prime 1;prime 2;prime 3;prime 4;prime 5;prime 6;prime 7;prime 8";
        int[][] due = {{1, 0}, {9, 0}, {10, 1}, {11, 1}, {19, 1}, {20, 2}, {29, 2}, {30, 3}, {39, 3}, {40, 4}, {41, 4}};
        for (int[] pair : due) {
            JokePump pump = made(TWELVE + spent + ";" + TO_41_GROANS);
            is("drops", pump.account(5), 0);
            is("drain " + pair[0], pump.drain(pair[0]), pair[1]);
            is("groans", pump.account(4), 41 - pair[0]);
            is("drops", pump.account(5), pair[1]);
            is("drained", pump.account(10), pair[0]);
        }
        is("9 stay 9", made(TO_41_GROANS + ";drain 40").account(5), 9);
        is("8 and 1", made("joke 1 1 1 1;prime 0;" + TO_41_GROANS + ";drain 10").account(5), 9);
        is("8 and 2", made("joke 1 1 1 1;prime 0;" + TO_41_GROANS + ";drain 20").account(5), 9);
        is("7 and 4", made("joke 1 1 1 1;joke 1 2 2 1;prime 0;prime 1;" + TO_41_GROANS + ";drain 41").account(5), 9);
        is("5 and 4", made(SIX + ";prime 0;prime 1;prime 2;prime 3;" + TO_41_GROANS + ";drain 40").account(5), 9);
        is("4 and 4", made(SIX + ";prime 0;prime 1;prime 2;prime 3;prime 4;" + TO_41_GROANS + ";drain "
            + "40").account(5), 8);
    }
}
