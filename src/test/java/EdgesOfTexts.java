/** The edges of "Input text", and of the promises 11 to 14. */
final class EdgesOfTexts {
    private static final String TWELVE_ROUNDS = "g1/1,g1/1,g1/1,g1/1,g1/1,g1/1,g1/1,g1/1,g1/1,g1/1,g1/1,g1/1";

    private EdgesOfTexts() {
    }

    static void run() {
        sixtyCharacters();
        listsOfRounds();
        syntaxErrors();
        append();
        clearBuffer();
        firstError();
        load();
        loadRefusesWhatIsNoList();
        loadRefusesSevenRounds();
    }

    private static Twins.Calls typed(String signs) {
        return clock -> Check.type(clock, signs);
    }

    /** It is asked twice: what was read once must not matter. */
    private static int firstErrorOf(String signs) {
        RemontoirClock clock = Twins.made(typed(signs));
        int first = clock.firstError();
        Check.same("firstError of " + signs + ", asked again", clock.firstError(), first);
        return first;
    }

    private static void sixtyCharacters() {
        Sentences.about("Input text", "The buffer has at most 60 characters.");
        RemontoirClock clock = Twins.made(typed("x".repeat(59)));
        Check.same("the 60th", clock.append('x'), 60);
        Twins.refuse("the 61st", Check.NO_STATE, typed("x".repeat(60)), one -> one.append('x'));
    }

    /** What is a whole list is loaded; what is none is refused, and the buffer stays. */
    private static void listsOfRounds() {
        Sentences.about("Input text", "A list of rounds consists of one or more rounds separated by \",\", each one"
                + " \"g\", \"s\" or \"c\" (for the weights 0, 1, 2), the turns (1 to 200), \"/\", and the period (1 to"
                + " 720), both numbers without leading zeros.");
        isRound("g1/1", 0, 1, 1);
        isRound("s9/9", 1, 9, 9);
        isRound("c10/10", 2, 10, 10);
        isRound("g99/99", 0, 99, 99);
        isRound("s100/100", 1, 100, 100);
        isRound("c199/719", 2, 199, 719);
        isRound("g200/720", 0, 200, 720);
        Check.same("two rounds", Twins.made(typed("s3/40,c7/99")).load(), 2);
        String[] wrong = {"", ",", "g", "g1", "g1/", "1/1", "g/1", "g1/1,", ",g1/1", "g1/1,,g1/1", "g1/1g1/1", "g1/1;g1/1",
            "G1/1", "S1/1", "C1/1", "f1/1", "h1/1", "gg1/1", "g1/1/1", "g1//1", "g0/1", "g201/1", "g01/1", "g001/1",
            "g1/0", "g1/721", "g1/01", "g1/001", "g-1/1", "g+1/1", "g1/-1", "g1.5/1", "g1\\1", "g1:1", "g1/1,s",
            "g1000/1", "g1/1000"};
        for (String signs : wrong) {
            Twins.refuse("load of " + signs, Check.NO_ARGUMENT, typed(signs), RemontoirClock::load);
        }
    }

    private static void isRound(String signs, int weight, int turns, int period) {
        RemontoirClock clock = Twins.made(typed(signs));
        Check.same("load of " + signs, clock.load(), 1);
        Check.same(signs + ": weight", clock.winder(0, 0), weight);
        Check.same(signs + ": turns", clock.winder(0, 1), turns);
        Check.same(signs + ": period", clock.winder(0, 2), period);
    }

    private static void syntaxErrors() {
        Sentences.about("Input text", "The buffer is read from left to right; a character is a syntax error if no list"
                + " of rounds, of any length, begins with the characters before it and this character (so also one by"
                + " which a number would be greater than told).");
        goesOnWith("", "gsc");
        for (String weight : new String[] {"g", "s", "c", "g1/1,c", "s1/1,c200/720,s"}) {
            goesOnWith(weight, "123456789");
            goesOnWith(weight + "1", "0123456789/");
            goesOnWith(weight + "2", "0123456789/");
            goesOnWith(weight + "3", "0123456789/");
            goesOnWith(weight + "9", "0123456789/");
            goesOnWith(weight + "10", "0123456789/");
            goesOnWith(weight + "19", "0123456789/");
            goesOnWith(weight + "20", "0/");
            goesOnWith(weight + "21", "/");
            goesOnWith(weight + "99", "/");
            goesOnWith(weight + "100", "/");
            goesOnWith(weight + "199", "/");
            goesOnWith(weight + "200", "/");
        }
        for (String turns : new String[] {"g1/", "s200/", "g1/1,c37/"}) {
            goesOnWith(turns, "123456789");
            goesOnWith(turns + "1", "0123456789,");
            goesOnWith(turns + "7", "0123456789,");
            goesOnWith(turns + "8", "0123456789,");
            goesOnWith(turns + "9", "0123456789,");
            goesOnWith(turns + "10", "0123456789,");
            goesOnWith(turns + "71", "0123456789,");
            goesOnWith(turns + "72", "0,");
            goesOnWith(turns + "73", ",");
            goesOnWith(turns + "80", ",");
            goesOnWith(turns + "99", ",");
            goesOnWith(turns + "100", ",");
            goesOnWith(turns + "719", ",");
            goesOnWith(turns + "720", ",");
        }
        goesOnWith("g1/1,", "gsc");
        goesOnWith(TWELVE_ROUNDS.substring(0, 49), "0123456789,");
    }

    /** Of all characters these and no others are none a syntax error behind the beginning. */
    private static void goesOnWith(String beginning, String right) {
        for (char sign = 33; sign <= 126; sign++) {
            int due = beginning.length() + (right.indexOf(sign) >= 0 ? 1 : 0);
            Check.same("firstError of " + beginning + sign, firstErrorOf(beginning + sign), due);
        }
    }

    private static void append() {
        String promise = "Promise 11";
        Sentences.noEdge(promise, "Appends a character to the buffer.");
        Sentences.about(promise, "`code`: the character code, 33 to 126");
        RemontoirClock clock = new RemontoirClock();
        Check.same("33", clock.append(33), 1);
        Check.same("126", clock.append(126), 2);
        Check.same("both are held", clock.digest(), Digests.of(clock, "!~"));
        Sentences.about(promise, "Returns the new length of the buffer.");
        RemontoirClock lengths = new RemontoirClock();
        for (int i = 1; i <= 60; i++) {
            Check.same("length", lengths.append('/'), i);
        }
        Sentences.about(promise, "Throws `IllegalArgumentException` if code is not 33 to 126");
        for (int code : new int[] {32, 127, 0, -1, 65536 + 'g', Integer.MIN_VALUE, Integer.MAX_VALUE}) {
            Twins.refuse("append(" + code + ")", Check.NO_ARGUMENT, one -> one.append(code));
        }
        Sentences.about(promise, "Throws `IllegalStateException` if the buffer has 60 characters");
        Check.same("it has 59", Twins.made(typed("~".repeat(59))).append(33), 60);
        for (int code : new int[] {33, 'g', 126}) {
            Twins.refuse("it has 60", Check.NO_STATE, typed("~".repeat(60)), one -> one.append(code));
        }
        RemontoirClock cleared = Twins.made(typed("~".repeat(60)));
        cleared.clearBuffer();
        Check.same("cleared", cleared.append(33), 1);
    }

    private static void clearBuffer() {
        String promise = "Promise 12";
        Sentences.about(promise, "Clears the buffer.");
        RemontoirClock clock = Twins.made(typed("x1/1"));
        clock.clearBuffer();
        Check.same("nothing is left", clock.digest(), new RemontoirClock().digest());
        Check.same("an empty one has no error", clock.firstError(), 0);
        longerTextBefore();
        Sentences.about(promise, "Returns the length that it had.");
        for (int length : new int[] {0, 1, 59, 60}) {
            RemontoirClock one = Twins.made(typed("x".repeat(length)));
            Check.same("length", one.clearBuffer(), length);
            Check.same("then 0", one.clearBuffer(), 0);
        }
    }

    /** What stood behind the end of the new text before it was cleared, or loaded, must not be read. */
    private static void longerTextBefore() {
        for (boolean isLoaded : new boolean[] {false, true}) {
            for (String longer : new String[] {"g1/111", "g1/1,s2/2", "g1/1,c3/3,c4/4"}) {
                RemontoirClock clock = Twins.made(typed(longer));
                Check.isTrue("the longer text is gone", (isLoaded ? clock.load() : clock.clearBuffer()) > 0);
                Check.type(clock, "g1/1");
                Check.same("behind " + longer + ": firstError", clock.firstError(), 4);
                Check.same("behind " + longer + ": digest", clock.digest(), Digests.of(clock, "g1/1"));
                Check.same("behind " + longer + ": load", clock.load(), 1);
                Check.same("behind " + longer + ": period", clock.winder(0, 2), 1);
            }
        }
        RemontoirClock seven = Twins.made(typed(TWELVE_ROUNDS));
        seven.clearBuffer();
        Check.type(seven, TWELVE_ROUNDS.substring(0, 29));
        Check.same("six rounds behind twelve", seven.load(), 6);
        RemontoirClock none = Twins.made(typed("g1/1"));
        none.clearBuffer();
        Check.type(none, "g");
        Check.same("what is begun is not completed", none.firstError(), 1);
        Twins.refuse("nor loaded", Check.NO_ARGUMENT, one -> {
            Check.type(one, "g1/1");
            one.clearBuffer();
            Check.type(one, "g1/");
        }, RemontoirClock::load);
    }

    private static void firstError() {
        String promise = "Promise 13";
        Sentences.noEdge(promise, "Finds the first syntax error of the buffer.");
        Sentences.about(promise, "Returns the index of the first character that is a syntax error; the length of the"
                + " buffer if there is none.");
        Check.same("none, empty", firstErrorOf(""), 0);
        Check.same("none, of 1", firstErrorOf("g"), 1);
        Check.same("none, no whole list", firstErrorOf("g1/1,"), 5);
        Check.same("none, more rounds than winders", firstErrorOf(TWELVE_ROUNDS), 59);
        Check.same("none, of 60", firstErrorOf(TWELVE_ROUNDS + ","), 60);
        Check.same("the first one", firstErrorOf("x1/1"), 0);
        Check.same("the last one of 60", firstErrorOf(TWELVE_ROUNDS + ";"), 59);
        Check.same("the first of two", firstErrorOf("g1x/1x"), 2);
        Check.same("right signs behind it do not matter", firstErrorOf("g0g1/1"), 1);
        Twins.changeNothing("firstError", RemontoirClock::firstError);
    }

    private static void load() {
        String promise = "Promise 14";
        Sentences.about(promise, "Dismisses all winders, hires one for each round in the buffer, in their order, and"
                + " clears the buffer.");
        RemontoirClock clock = new RemontoirClock();
        for (int i = 0; i < 6; i++) {
            clock.hire(0, 1, 1);
        }
        clock.pass(10);
        Check.type(clock, "c3/5,g200/720,s7/1");
        clock.load();
        int[][] rounds = {{2, 3, 5, 5, 0, 0}, {0, 200, 720, 720, 0, 0}, {1, 7, 1, 1, 0, 0}};
        for (int i = 0; i < 3; i++) {
            for (int what = 0; what < 6; what++) {
                Check.same("winder " + i + ", " + what, clock.winder(i, what), rounds[i][what]);
            }
        }
        Check.same("the buffer is empty", clock.clearBuffer(), 0);
        Sentences.about(promise, "Undoable, as one call.");
        RemontoirClock undone = Twins.made(Twins.BUSY_WITH_ROOM);
        undone.clearBuffer();
        long before = undone.digest();
        Check.type(undone, "g1/1,s1/1,c1/1,g1/1,s1/1,c1/1");
        undone.load();
        Check.same("one state is saved for six rounds", undone.count(17), 6);
        undone.undo();
        Check.same("all is back, but the buffer", undone.digest(), before);
        Sentences.about(promise, "Returns how many winders there are then.");
        StringBuilder signs = new StringBuilder();
        for (int i = 1; i <= 6; i++) {
            signs.append(i > 1 ? "," : "").append("g200/720");
            RemontoirClock one = Twins.made(typed(signs.toString()));
            one.hire(2, 1, 1);
            Check.same("of " + i + " rounds", one.load(), i);
            Check.same("there are as many", one.count(14), i);
        }
    }

    private static void loadRefusesWhatIsNoList() {
        String promise = "Promise 14";
        Sentences.about(promise, "Throws `IllegalArgumentException` if the buffer is not a complete list of rounds");
        Check.same("a complete one", Twins.made(typed("g12/345,s1/2")).load(), 2);
        for (int length = 0; length < 12; length++) {
            String signs = "g12/345,s1/2".substring(0, length);
            boolean isComplete = length >= 5 && length <= 7;
            if (isComplete) {
                Check.same("load of " + signs, Twins.made(typed(signs)).load(), 1);
            } else {
                Twins.refuse("load of " + signs, Check.NO_ARGUMENT, typed(signs), RemontoirClock::load);
            }
        }
        Twins.refuse("load of 60 characters, a comma behind", Check.NO_ARGUMENT, typed(TWELVE_ROUNDS + ","),
                RemontoirClock::load);
        Twins.refuse("load of 60 characters, an error behind", Check.NO_ARGUMENT, typed(TWELVE_ROUNDS + "x"),
                RemontoirClock::load);
        Twins.refuse("busy", Check.NO_ARGUMENT, Twins.BUSY, RemontoirClock::load);
    }

    private static void loadRefusesSevenRounds() {
        Sentences.about("Promise 14", "Throws `IllegalStateException` if there are more than 6 rounds in it");
        Check.same("six", Twins.made(typed(TWELVE_ROUNDS.substring(0, 29))).load(), 6);
        Twins.refuse("seven", Check.NO_STATE, typed(TWELVE_ROUNDS.substring(0, 34)), RemontoirClock::load);
        Twins.refuse("twelve", Check.NO_STATE, typed(TWELVE_ROUNDS), RemontoirClock::load);
        Twins.refuse("twelve, of 60 characters", Check.NO_STATE, typed(TWELVE_ROUNDS + "2"), RemontoirClock::load);
        Twins.refuse("seven, busy", Check.NO_STATE, one -> {
            Twins.BUSY.on(one);
            one.clearBuffer();
            Check.type(one, "g1/1,s1/1,c1/1,g1/1,s1/1,c1/1,g1/1");
        }, RemontoirClock::load);
    }
}
