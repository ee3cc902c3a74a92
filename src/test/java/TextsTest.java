/** The sentences of "Texts" and "Reasons" that name a boundary, one after the other. */
public final class TextsTest extends PumpCheck {
    private static final String[] COMMANDS = {"joke 0 4 60 9", "joke 3 30 7 1", "prime 0", "prime 12", "drop 5",
        "drop 11", "drain 9", "drain 50", "stroke 3", "stroke 10", "bucket 3 5", "go 2", "pump 9"};
    private static final String SIX = "joke 1 1 0 1;joke 1 2 1 1;joke 1 3 2 1;joke 1 4 3 1;joke 1 5 4 1;joke 1 6 5 1";
    private static final String TWELVE = SIX
        + ";joke 2 1 6 1;joke 2 2 7 1;joke 2 3 8 1;joke 3 4 9 1;joke 3 5 10 1;joke 0 6 11 1";
    private static final String NINE_PRIMED =
        ";prime 0;prime 1;prime 2;prime 3;prime 4;prime 5;prime 6;prime 7;prime 8";
    private static final String TO_41_GROANS = "stroke 10;pump 9;pump 2";

    public static void main(String[] args) {
        sixtyCharacters();
        commands();
        numbersOfDigits();
        beginnings();
        everyCharacter();
        betweenCommands();
        letterByLetter();
        allOrNone();
        outOfRange();
        firstReason();
        reasonsWithDetails();
        reasonsOfCommands();
        latestReason();
        DUE.finish("TextsTest");
    }

    // ---- Texts ----

    private static void sixtyCharacters() {
        says("The input has at most 60 characters.");
        JokePump pump = new JokePump();
        is("at first", pump.account(12), 0);
        for (int length = 1; length <= 60; length++) {
            is("append", pump.append('g'), length);
            is("characters", pump.account(12), length);
        }
        is("the 61st", pump.append('g'), FULL);
        is("and again", pump.append('g'), FULL);
        is("characters", pump.account(12), 60);
        is("read", pump.read(), BAD);
        is("characters", pump.account(12), 0);
        is("the first", pump.append('g'), 1);
        String longest = "joke 0 10 10 1;joke 0 11 11 2;joke 0 12 12 3;go 1;bucket 0 1";
        is("60 characters", longest.length(), 60);
        pump = new JokePump();
        for (int i = 0; i < 60; i++) {
            is("append", pump.append(longest.charAt(i)), i + 1);
        }
        is("the 61st", pump.append(';'), FULL);
        is("read without it", pump.read(), 5);
        DUE.is("its commands", everything(pump),
            everything(made("joke 0 10 10 1;joke 0 11 11 2;joke 0 12 12 3;go 1;bucket 0 1")));
        is("the most commands", give(new JokePump(),
            "go 1;go 2;go 1;go 2;go 1;go 2;go 1;go 2;go 1;go 2;go 1;go 2"), 12);
    }

    private static void commands() {
        says("The commands are: a joke comes to a well, with its depth, its sign and its wit; a joke is "
            + "primed, or goes; "
            + "so many groans are drained; the stroke becomes so long; a well gets a bucket; the pump moves "
                + "to a well; "
            + "and it makes so many strokes.");
        String ahead = "joke 0 3 50 9;joke 0 4 51 8;joke 1 9 52 7;pump 1";
        String[] calls = {"joke 2 30 60 1", "prime 0", "prime 1", "drop 1", "drop 0", "drain 1", "stroke 10",
            "bucket 3 5",
            "bucket 0 1", "go 3", "pump 1", "pump 9"};
        for (String call : calls) {
            isAlike(ahead + ";text " + call, ahead + ";" + call);
        }
        isAlike(ahead + ";text stroke 4,go 1,pump 3,go 0,pump 1,drain 3,drain 2",
            ahead + ";stroke 4;go 1;pump 3;go 0;pump 1;drain 3;drain 2");
    }

    private static void numbersOfDigits() {
        says("A number has 1 or 2 digits.");
        isAlike("text joke 0 9 9 9,joke 1 09 01 9,joke 2 10 00 1", "joke 0 9 9 9;joke 1 9 1 9;joke 2 10 0 1");
        isAlike("joke 0 9 9 9;text prime 00", "joke 0 9 9 9;prime 0");
        isAlike("joke 0 9 9 9;text drop 00", "joke 0 9 9 9;drop 0");
        isAlike("pump 4;text drain 03", "pump 4;drain 3");
        isAlike("text stroke 04", "stroke 4");
        isAlike(TWELVE + ";text prime 11,drop 10", TWELVE + ";prime 11;drop 10");
        isFault("prime 000", 8);
        isFault("drop 123", 7);
        isFault("drain 010", 8);
        isFault("stroke 010", 9);
        isFault("stroke 100", 9);
        isFault("joke 0 010 1 1", 9);
        isFault("joke 0 10 010 1", 12);
        isFault("joke 0 10 01 01", 14);
        isFault("joke 00 10 01 1", 6);
        isFault("bucket 00 1", 8);
        isFault("bucket 0 01", 10);
        isFault("go 01", 4);
        isFault("pump 01", 6);
        isFault("pump 10", 6);
        isFault("prime ", 6);
        isFault("prime x", 6);
        isFault("joke 0  1 1", 7);
    }

    private static void beginnings() {
        says("or its length if it ends too early");
        isFault("", 0);
        for (String command : COMMANDS) {
            for (int length = 0; length < command.length(); length++) {
                String beginning = command.substring(0, length);
                if (!PumpModel.isText(beginning)) {
                    isFault(beginning, length);
                    isFault("go 1;" + beginning, length + 5);
                }
            }
            isFault(command + ";", command.length() + 1);
        }
        isFault("go 1;go 2;go 1;go 2;go 1;go 2;go 1;go 2;go 1;go 2;go 1;go 2;", 60);
    }

    /** Each character of each command, in place of each one of it, and behind it. */
    private static void everyCharacter() {
        says("The fault position of a text is the index of its first character that cannot continue such a text");
        for (String command : COMMANDS) {
            for (int index = 0; index <= command.length(); index++) {
                for (char character = 32; character <= 126; character++) {
                    String rest = index < command.length() ? command.substring(index + 1) : "";
                    String text = command.substring(0, index) + character + rest;
                    if (!PumpModel.isText(text)) {
                        isFault(text, PumpModel.faultOf(text));
                    }
                }
            }
        }
    }

    private static void betweenCommands() {
        says("text = command { \";\" command");
        isFault(";", 0);
        isFault(";go 1", 0);
        isFault("go 1;;go 2", 5);
        isFault("go 1; go 2", 5);
        isFault("go 1 ;go 2", 4);
        isFault("go 1,go 2", 4);
        isFault("go 1 go 2", 4);
        isFault("go 1go 2", 4);
        isFault("go 1;go 2;", 10);
        isFault("go 1;go 2 ", 9);
        isFault(" go 1", 0);
        isFault("stroke 10 ;go 1", 9);
        isFault("stroke 1;;", 9);
        isFault("x;go 1", 0);
        isFault("go 1;x;go 2;y", 5);
    }

    private static void letterByLetter() {
        says("words are looked at letter by letter");
        String[] words = {"joke", "prime", "drop", "drain", "stroke", "bucket", "go", "pump"};
        for (String word : words) {
            for (int length = 1; length <= word.length(); length++) {
                String beginning = word.substring(0, length);
                isFault(beginning, length);
                isFault(beginning + "?", length);
                isFault(beginning + beginning.toUpperCase().charAt(0), length);
            }
            isFault(word.toUpperCase() + " 1", 0);
        }
        isFault("pr", 2);
        isFault("prump 1", 2);
        isFault("purime 1", 2);
        isFault("droin 1", 3);
        isFault("drap 1", 3);
        isFault("dump 1", 1);
        isFault("gone 1", 2);
        isFault("jo ke 0 1 1 1", 2);
    }

    private static void allOrNone() {
        says("Commands are done one after the other, all of them or none.");
        String ahead = "joke 0 3 50 9;joke 0 4 51 8;joke 1 9 52 7;pump 1;prime 1";
        isTextRefused(ahead, "joke 2 1 1 1;joke 2 1 2 1", 1, 2, 2);
        isTextRefused(ahead, "pump 5;drain 2;stroke 1;drop 0;drop 0", 4, NOTHING, NOTHING);
        isTextRefused(ahead, "go 1;stroke 9;pump 1;go 1", 3, 5, 1);
        isTextRefused(ahead, "bucket 0 5;bucket 1 5;bucket 2 5;bucket 2 5", 3, 5, 2);
        isTextRefused(ahead, "drop 0;drop 0;joke 0 1 51 1;joke 0 2 50 1", 3, 3, 50);
        isTextRefused(ahead, "stroke 10;pump 9;pump 9;pump 1", 3, 8, 42);
        isTextRefused(ahead, "prime 0;prime 0", 1, 5, 0);
        JokePump pump = made(ahead);
        is("a fault behind commands", give(pump, "drop 0;pump 1;x"), BAD);
        isAlike("a fault behind commands", pump, made(ahead));
        isAlike("joke 0 1 1 1;text drop 0,joke 0 1 1 2,prime 0,drop 0",
            "joke 0 1 1 1;drop 0;joke 0 1 1 2;prime 0;drop 0");
    }

    private static void outOfRange() {
        says("a command of a text is refused, or has a number that is out of range: the number of the "
            + "command, from 0");
        String ahead = "joke 0 9 1 1;pump 1";
        String[] commands = {"joke 4 1 2 1", "joke 9 1 2 1", "joke 0 0 2 1", "joke 0 31 2 1", "joke 0 99 2 1",
            "joke 0 1 64 1", "joke 0 1 99 1", "joke 0 1 2 0", "prime 1", "prime 99", "drop 1", "drop 12", "drain 0",
            "drain 51", "drain 99", "stroke 0", "stroke 11", "stroke 99", "bucket 4 1", "bucket 9 2", "bucket 0 0",
            "bucket 0 6", "bucket 0 9", "go 4", "go 9", "pump 0"};
        for (String command : commands) {
            isTextRefused(ahead, command, 0, NOTHING, NOTHING);
            isTextRefused(ahead, "go 1;" + command, 1, NOTHING, NOTHING);
            isTextRefused(ahead, "go 1;go 0;pump 9;go 1;go 0;go 1;" + command, 6, NOTHING, NOTHING);
        }
        isTextRefused("go 2", "go 1;go 2;go 1;go 2;go 1;go 2;go 1;go 2;go 1;go 2;go 1;go 4", 11, NOTHING, NOTHING);
        isTextRefused("go 2", "go 1;go 2;go 1;go 2;go 1;go 2;go 1;go 2;go 1;go 2;go 1;go 1", 11, 5, 1);
        isTextRefused(ahead, "go 0;go 4", 0, 5, 0);
        isTextRefused(ahead, "go 4;go 0", 0, NOTHING, NOTHING);
    }

    // ---- Reasons ----

    private static void firstReason() {
        says("Something is refused for the first of the reasons that its method names, in the order in "
            + "which it names them");
        String known = ";go 3;pump 2;go 0";
        isRefused(TWELVE + known, "joke 1 1 9 1", 3, 9);
        isRefused(SIX + ";joke 2 1 9 1;go 2;pump 1", "joke 1 1 9 1", 3, 9);
        isRefused(SIX + ";joke 2 1 9 1;go 2;pump 1", "joke 1 30 9 1", 3, 9);
        isRefused(TWELVE, "joke 1 1 9 1", 4, 9);
        isRefused(TWELVE, "joke 1 30 9 1", 4, 9);
        isRefused(SIX, "joke 1 2 0 1", 4, 0);
        isRefused(SIX, "joke 1 30 0 1", 4, 0);
        isRefused(TWELVE, "joke 1 2 20 1", 2, 1);
        isRefused(TWELVE, "joke 0 6 20 1", 2, 11);
        isRefused(SIX, "joke 1 6 20 1", 2, 5);
        isRefused(TWELVE, "joke 1 30 20 1", 1, 12);
        isRefused(TWELVE, "joke 0 30 20 1", 1, 12);
        isRefused(SIX, "joke 1 30 20 1", 1, 6);
        isRefused(TWELVE + NINE_PRIMED, "prime 8", 5, 8);
        isRefused(TWELVE + NINE_PRIMED, "prime 9", 6, 0);
    }

    private static void reasonsWithDetails() {
        says("with a detail");
        isRefused("joke 0 9 7 1;joke 0 3 8 1;pump 1", "joke 2 30 8 1", 3, 8);
        isRefused("joke 0 9 7 1;joke 0 3 8 1;joke 3 3 9 1;pump 1", "joke 2 30 9 1", 4, 1);
        isRefused("joke 0 9 7 1;joke 0 3 8 1;joke 3 3 9 1;pump 1", "joke 3 3 10 1", 2, 1);
        isRefused("joke 0 9 7 1;joke 3 3 9 1;prime 1", "prime 1", 5, 1);
        isRefused(TWELVE + NINE_PRIMED + ";go 3;stroke 1;pump 3", "prime 11", 6, 3);
        isRefused(TWELVE + NINE_PRIMED + ";stroke 10;go 3;pump 5", "prime 9", 6, 17);
        isRefused("go 1", "drain 1", 7, 0);
        isRefused("pump 3", "drain 4", 7, 3);
        isRefused("pump 3", "drain 50", 7, 3);
        isRefused("stroke 10", "stroke 10", 5, 10);
        isRefused("stroke 10;stroke 3", "stroke 3", 5, 3);
        for (int well = 0; well < 4; well++) {
            isRefused("stroke 1", "bucket " + well + " 2", 5, well);
            isRefused("bucket " + well + " 5", "bucket " + well + " 5", 5, well);
            isRefused(well == 0 ? "stroke 1" : "go " + well, "go " + well, 5, well);
        }
        isRefused(TO_41_GROANS, "pump 1", 8, 41);
        isRefused(TO_41_GROANS + ";drain 1;pump 9", "pump 1", 8, 44);
    }

    private static void reasonsOfCommands() {
        says("Behind 9 lies the reason for which the command is refused, or nothing for a number that is "
            + "out of range.");
        isTextRefused("joke 0 3 8 1;pump 1", "go 1;joke 2 30 8 1", 1, 3, 8);
        isTextRefused("joke 0 9 7 1;joke 3 3 9 1", "joke 2 30 9 1;go 1", 0, 4, 1);
        isTextRefused("joke 0 9 7 1;joke 3 3 9 1", "go 1;go 2;joke 3 3 10 1", 2, 2, 1);
        isTextRefused(TWELVE, "joke 1 30 20 1", 0, 1, 12);
        isTextRefused(SIX, "stroke 1;joke 1 30 20 1", 1, 1, 6);
        isTextRefused(SIX, "prime 2;prime 2", 1, 5, 2);
        isTextRefused(TWELVE + NINE_PRIMED + ";go 3;stroke 1", "pump 3;prime 9", 1, 6, 3);
        isTextRefused("pump 3", "drain 1;drain 3", 1, 7, 2);
        isTextRefused("pump 3", "stroke 3", 0, 5, 3);
        isTextRefused("pump 3", "bucket 3 2", 0, 5, 3);
        isTextRefused("pump 3", "go 0", 0, 5, 0);
        isTextRefused(TO_41_GROANS, "go 1;pump 9", 1, 8, 41);
    }

    private static void latestReason() {
        says("The latest reason, with what lies behind it, is kept.");
        JokePump pump = new JokePump();
        is("none", pump.reason(0, false), STATE);
        is("none in detail", pump.reason(0, true), STATE);
        is("none behind", pump.reason(1, false), STATE);
        is("none behind in detail", pump.reason(1, true), STATE);
        isRefused("go", pump, pump.go(0), 5, 0);
        is("text", give(pump, "pump 2;drain 9"), REFUSED);
        hasReason("text", pump, 9, 1, 7, 2);
        does(pump, "go 1;text go 2,go 3;undo;save;restore");
        is("no such well", pump.go(4), NONE);
        is("out of range", pump.pump(0), BAD);
        is("a fault", give(pump, "go"), BAD);
        is("nothing to undo", pump.undo(), STATE);
        is("no such depth", pump.reason(2, false), BAD);
        hasReason("kept", pump, 9, 1, 7, 2);
        is("text", give(pump, "go 2;go 4"), REFUSED);
        hasReason("nothing is left behind it", pump, 9, 1, NOTHING, NOTHING);
        is("text", give(pump, "stroke 3"), REFUSED);
        hasReason("something is again", pump, 9, 0, 5, 3);
        isRefused("nothing is left behind it", pump, pump.drain(1), 7, 0);
    }
}
