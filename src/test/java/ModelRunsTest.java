/** Long runs of calls, the same each time, on the program and on a model of the document. */
public final class ModelRunsTest {
    private static final int RUNS = 3000;
    private static final int CALLS = 512;
    // The most calls that each of these makes.
    private static final int TEXT_CALLS = 75;
    private static final int LINE_CALLS = 50;
    private static final int NUMBERS_CALLS = 23;
    private static final int QUESTION_CALLS = 8;
    private static final int[] EDGES = {Integer.MIN_VALUE, -7, -1, 64, 100, Integer.MAX_VALUE};
    private static final String[] WORDS =
        {"joke ", "prime ", "drop ", "drain ", "stroke ", "bucket ", "go ", "pump "};

    private final Due due;
    private final int run;
    private final JokePump pump = new JokePump();
    private final PumpModel model = new PumpModel();
    private long seed;

    private ModelRunsTest(Due due, int run) {
        this.due = due;
        this.run = run;
        this.seed = run * 7919L + 17;
    }

    public static void main(String[] args) {
        Due due = new Due();
        for (int run = 0; run < RUNS && due.isAllRight(); run++) {
            new ModelRunsTest(due, run).go();
        }
        due.finish("ModelRunsTest");
    }

    private int next(int bound) {
        seed = seed * 6364136223846793005L + 1442695040888963407L;
        return (int) ((seed >>> 33) % bound);
    }

    /** A number from 0 to most, or now and then one that is out of range. */
    private int number(int least, int most) {
        if (next(25) == 0) {
            return next(2) == 0 ? EDGES[next(EDGES.length)] : next(2) == 0 ? least - 1 : most + 1;
        }
        return least + next(most - least + 1);
    }

    private void go() {
        int budget = CALLS;
        while (budget > 0 && due.isAllRight()) {
            int kind = next(100);
            if (kind < 54 && kind >= 50 && budget > TEXT_CALLS) {
                budget -= text();
            } else if (kind < 60 && kind >= 54) {
                back();
                budget--;
            } else if (kind >= 97 && budget > LINE_CALLS) {
                budget -= writing();
            } else if (kind >= 92 && budget > NUMBERS_CALLS) {
                budget -= numbers();
            } else if (kind >= 60 && budget > QUESTION_CALLS) {
                budget -= question();
            } else {
                change();
                budget--;
            }
        }
    }

    private String at(String call) {
        return "run " + run + ": " + call;
    }

    private void change() {
        switch (next(14)) {
            case 0: case 1: case 2: case 3: case 4:
                joke(number(0, 3), number(1, 30), number(0, 63), number(1, 9));
                break;
            case 5: {
                int joke = number(0, Math.max(0, model.account(0) - 1));
                due.is(at("prime " + joke), pump.prime(joke), model.change("prime", joke));
                break;
            }
            case 6: {
                int joke = number(0, 11);
                if (next(3) == 0) {
                    due.is(at("drop " + joke), pump.drop(joke), model.change("drop", joke));
                }
                break;
            }
            case 7: case 8: {
                int groans = number(1, next(2) == 0 ? 50 : 20);
                due.is(at("drain " + groans), pump.drain(groans), model.change("drain", groans));
                break;
            }
            case 9: {
                int length = number(1, 10);
                due.is(at("stroke " + length), pump.stroke(length), model.change("stroke", length));
                break;
            }
            case 10: {
                int well = number(0, 3);
                int size = number(1, 5);
                due.is(at("bucket " + well + " " + size), pump.bucket(well, size),
                    model.change("bucket", well, size));
                break;
            }
            case 11: {
                int well = number(0, 3);
                due.is(at("go " + well), pump.go(well), model.change("go", well));
                break;
            }
            default: {
                int strokes = number(1, next(2) == 0 ? 9 : 2);
                due.is(at("pump " + strokes), pump.pump(strokes), model.change("pump", strokes));
                break;
            }
        }
    }

    private void joke(int well, int depth, int sign, int wit) {
        due.is(at("joke " + well + " " + depth + " " + sign + " " + wit),
            pump.joke(well, depth, sign, wit), model.change("joke", well, depth, sign, wit));
    }

    private void back() {
        switch (next(8)) {
            case 0: due.is(at("save"), pump.save(), model.save()); break;
            case 1: due.is(at("restore"), pump.restore(), model.restore()); break;
            default: due.is(at("undo"), pump.undo(), model.undo()); break;
        }
    }

    private String command() {
        int word = next(WORDS.length);
        StringBuilder text = new StringBuilder(WORDS[word]);
        if (word == 0) {
            text.append(next(4)).append(' ').append(1 + next(30)).append(' ').append(next(64));
            text.append(' ').append(1 + next(9));
        } else if (word == 1 || word == 2) {
            text.append(next(6));
        } else if (word == 3 || word == 4) {
            text.append(next(12));
        } else if (word == 5) {
            text.append(next(4)).append(' ').append(1 + next(5));
        } else {
            text.append(next(4));
        }
        return text.toString();
    }

    /** A text of some commands, at times with a fault or a number out of range in it. */
    private String someText() {
        StringBuilder text = new StringBuilder(command());
        int more = next(4);
        for (int i = 0; i < more; i++) {
            text.append(';').append(command());
        }
        int spoilt = next(6);
        int index = next(text.length());
        if (spoilt == 0) {
            text.setCharAt(index, (char) (32 + next(95)));
        } else if (spoilt == 1) {
            text.setLength(index);
        } else if (spoilt == 2) {
            text.insert(index, "0123456789 ;".charAt(next(12)));
        } else if (spoilt == 3) {
            text.append("; 0aj".charAt(next(5)));
        }
        return text.toString();
    }

    private int text() {
        String text = someText();
        for (int i = 0; i < text.length(); i++) {
            due.is(at("append"), pump.append(text.charAt(i)), model.append(text.charAt(i)));
        }
        due.is(at("read " + text), pump.read(), model.read());
        due.is(at("fault behind " + text), pump.fault(), model.fault());
        return text.length() + 2 + reasons();
    }

    private int reasons() {
        for (int depth = -1; depth <= 2; depth++) {
            due.is(at("reason " + depth), pump.reason(depth, false), model.reason(depth, false));
            due.is(at("reason's detail " + depth), pump.reason(depth, true), model.reason(depth, true));
        }
        return 8;
    }

    private int question() {
        int joke = number(0, 11);
        int well = number(0, 3);
        int place = number(0, 11);
        int what = number(0, 5);
        int depth = number(1, 30);
        int some = number(0, 20);
        int groans = number(0, 50);
        switch (next(8)) {
            case 0: due.is(at("jokeOf"), pump.jokeOf(joke, what), model.jokeOf(joke, what)); return 1;
            case 1: due.is(at("wellOf"), pump.wellOf(well, what), model.wellOf(well, what)); return 1;
            case 2: due.is(at("laughBits"), pump.laughBits(joke, groans), model.laughBits(joke, groans));
                return 1;
            case 3: due.is(at("liftedOf"), pump.liftedOf(place, what), model.liftedOf(place, what));
                return 1;
            case 4:
                due.is(at("strokes"), pump.strokes(depth), model.strokes(depth));
                due.is(at("strokesAgain"), pump.strokesAgain(depth), model.strokes(depth));
                return 2;
            case 5:
                due.is(at("would"), pump.would(some), model.would(some));
                due.is(at("groansIn"), pump.groansIn(some), model.groansIn(some));
                due.is(at("bestStroke"), pump.bestStroke(), model.bestStroke());
                return 3;
            case 6:
                due.is(at("funniest"), pump.funniest(place), model.funniest(place));
                due.is(at("inWell"), pump.inWell(well, place), model.inWell(well, place));
                due.is(at("fullest"), pump.fullest(place), model.fullest(place));
                return 3;
            default: return reasons();
        }
    }

    private int numbers() {
        for (int what = -1; what <= 14; what++) {
            due.is(at("account " + what), pump.account(what), model.account(what));
        }
        due.is(at("laughs"), pump.laughs(), model.laughs());
        due.is(at("laughsAgain"), pump.laughsAgain(), model.laughs());
        due.is(at("wholeLaughs"), pump.wholeLaughs(), model.wholeLaughs());
        due.is(at("meanDepth"), pump.meanDepth(), model.meanDepth());
        due.is(at("knownShare"), pump.knownShare(), model.knownShare());
        due.is(at("isCounted"), pump.isCounted(), true);
        int sign = number(0, 63);
        due.is(at("isKnown " + sign), pump.isKnown(sign), model.isKnown(sign));
        return NUMBERS_CALLS;
    }

    private int writing() {
        int well = number(0, 4);
        if (well == 4) {
            due.is(at("writePump"), pump.writePump(), model.writePump());
        } else {
            due.is(at("write " + well), pump.write(well), model.write(well));
        }
        return 1 + line();
    }

    private int line() {
        int index = 0;
        while (model.written(index) != PumpModel.NONE) {
            due.is(at("written " + index), pump.written(index), model.written(index));
            index++;
        }
        due.is(at("written " + index), pump.written(index), PumpModel.NONE);
        due.is(at("written -1"), pump.written(-1), PumpModel.NONE);
        return index + 2;
    }
}
