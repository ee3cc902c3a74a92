import java.util.function.Supplier;

/**
 * What the tests of the pump share: a test class extends it, and runs in a Java machine of its own.
 * An object is asked at most 512 times, so what is dear to tell is asked of a new one each time.
 */
abstract class PumpCheck {
    static final int NONE = -1;
    static final int BAD = -2;
    static final int STATE = -3;
    static final int FULL = -4;
    static final int REFUSED = -5;
    static final int NOTHING = -6;
    static final int LEAST = Integer.MIN_VALUE;
    static final int GREATEST = Integer.MAX_VALUE;

    static final Due DUE = new Due();

    static void says(String sentence) {
        DUE.says(sentence);
    }

    static void is(String what, long got, long want) {
        DUE.is(what, got, want);
    }

    // ---- Calls told as words, with a ";" between two ----

    /** Does one call, like "joke 0 4 60 9", or "text go 1,go 2" for a text that is read. */
    static int call(JokePump pump, String words) {
        if (words.startsWith("text ")) {
            return give(pump, words.substring(5).replace(',', ';'));
        }
        String[] parts = words.split(" ");
        int[] numbers = new int[4];
        for (int i = 1; i < parts.length; i++) {
            numbers[i - 1] = Integer.parseInt(parts[i]);
        }
        switch (parts[0]) {
            case "joke": return pump.joke(numbers[0], numbers[1], numbers[2], numbers[3]);
            case "prime": return pump.prime(numbers[0]);
            case "drop": return pump.drop(numbers[0]);
            case "drain": return pump.drain(numbers[0]);
            case "stroke": return pump.stroke(numbers[0]);
            case "bucket": return pump.bucket(numbers[0], numbers[1]);
            case "go": return pump.go(numbers[0]);
            case "pump": return pump.pump(numbers[0]);
            case "undo": return pump.undo();
            case "save": return pump.save();
            case "restore": return pump.restore();
            case "read": return pump.read();
            default: throw new IllegalArgumentException(words);
        }
    }

    /** Does calls that answer no error. */
    static JokePump does(JokePump pump, String calls) {
        for (String words : calls.split(";")) {
            DUE.is(words + " of " + calls + " is no error", call(pump, words) >= 0, true);
        }
        return pump;
    }

    static JokePump made(String calls) {
        return does(new JokePump(), calls);
    }

    /** Appends a text, and reads it. */
    static int give(JokePump pump, String text) {
        for (int i = 0; i < text.length(); i++) {
            DUE.is("append to " + text, pump.append(text.charAt(i)), i + 1);
        }
        return pump.read();
    }

    // ---- Reasons ----

    static void hasReason(String what, JokePump pump, int kind, int detail, int behind, int behindIt) {
        is(what + ", reason", pump.reason(0, false), kind);
        is(what + ", detail", pump.reason(0, true), detail);
        is(what + ", behind", pump.reason(1, false), behind);
        is(what + ", behind in detail", pump.reason(1, true), behindIt);
    }

    static void isRefused(String what, JokePump pump, int answer, int kind, int detail) {
        is(what, answer, REFUSED);
        hasReason(what, pump, kind, detail, NOTHING, NOTHING);
    }

    /** A call that is refused, and changes nothing, where the calls ahead of it were done. */
    static void isRefused(String ahead, String call, int kind, int detail) {
        JokePump pump = made(ahead);
        isRefused(call + " behind " + ahead, pump, call(pump, call), kind, detail);
        isAlike(call, pump, made(ahead));
    }

    /** A text that is refused for a command, and changes nothing. */
    static void isTextRefused(String ahead, String text, int command, int behind, int behindIt) {
        JokePump pump = made(ahead);
        is("read " + text, give(pump, text), REFUSED);
        is("input behind " + text, pump.account(12), 0);
        hasReason(text, pump, 9, command, behind, behindIt);
        isAlike(text, pump, made(ahead));
    }

    static void isFault(String text, int position) {
        JokePump pump = new JokePump();
        is("read " + text, give(pump, text), BAD);
        is("fault of " + text, pump.fault(), position);
        is("input behind " + text, pump.account(12), 0);
        is("changes behind " + text, pump.account(13), 0);
        is("reason behind " + text, pump.reason(0, false), STATE);
    }

    // ---- Everything that can be undone ----

    static String line(JokePump pump, int length) {
        StringBuilder line = new StringBuilder();
        for (int i = 0; i < length; i++) {
            line.append((char) pump.written(i));
        }
        is("behind the line", pump.written(length), NONE);
        return line.toString();
    }

    /** Everything that can be undone, as a text; some 250 calls, and 3 for each joke that was lifted. */
    static String everything(JokePump pump) {
        StringBuilder all = new StringBuilder();
        for (int well = 0; well < 4; well++) {
            all.append(line(pump, pump.write(well))).append('/').append(pump.wellOf(well, 3)).append(' ');
        }
        for (int what = 0; what <= 11; what++) {
            all.append(pump.account(what)).append(',');
        }
        for (int joke = 0; joke < pump.account(0); joke++) {
            for (int what = 0; what <= 5; what++) {
                all.append(pump.jokeOf(joke, what)).append('.');
            }
        }
        for (int place = 0; place < pump.account(6); place++) {
            for (int what = 0; what <= 2; what++) {
                all.append(pump.liftedOf(place, what)).append('.');
            }
        }
        for (int sign = 0; sign < 64; sign++) {
            all.append(pump.isKnown(sign));
        }
        return all.append(pump.laughs()).append(' ').append(pump.laughsAgain()).toString();
    }

    /** Two objects, not to be asked again, in which all that can be undone, and how often, is alike. */
    static void isAlike(String what, JokePump got, JokePump want) {
        is(what + ": changes", got.account(13), want.account(13));
        DUE.is(what, everything(got), everything(want));
    }

    /** Calls behind which everything is as behind other calls. */
    static void isAlike(String calls, String others) {
        DUE.is(calls, everything(made(calls)), everything(made(others)));
    }

    static void isAlike(String what, Supplier<JokePump> got, Supplier<JokePump> want) {
        isAlike(what, got.get(), want.get());
    }
}
