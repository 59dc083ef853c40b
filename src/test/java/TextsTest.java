/** Promises 11 to 15: the buffer, rounds as texts, and undo. */
public final class TextsTest {
    public static void main(String[] args) {
        append();
        clearBuffer();
        firstError();
        load();
        loadRefuses();
        undoAndTheBuffer();
        undoSixStates();
        undoGivesBackAll();
        undoGivesBackDebts();
        Check.end();
    }

    private static void append() {
        RemontoirClock clock = new RemontoirClock();
        Check.refuses("append(32)", clock, Check.NO_ARGUMENT, () -> clock.append(32));
        Check.refuses("append(127)", clock, Check.NO_ARGUMENT, () -> clock.append(127));
        Check.refuses("append(-1)", clock, Check.NO_ARGUMENT, () -> clock.append(-1));
        Check.refuses("append(65536 + 103)", clock, Check.NO_ARGUMENT, () -> clock.append(65536 + 103));
        for (int i = 1; i <= 60; i++) {
            Check.same("append", clock.append(i % 2 == 0 ? 33 : 126), i);
        }
        Check.refuses("a 61st", clock, Check.NO_STATE, () -> clock.append(103));
        Check.refuses("a wrong 61st", clock, Check.NO_ARGUMENT, () -> clock.append(32));
        Check.same("append is not undoable", clock.count(17), 0);
    }

    private static void clearBuffer() {
        RemontoirClock clock = new RemontoirClock();
        Check.same("an empty one", clock.clearBuffer(), 0);
        Check.type(clock, "g1/1");
        Check.same("four", clock.clearBuffer(), 4);
        Check.same("then none", clock.clearBuffer(), 0);
        Check.same("clearBuffer is not undoable", clock.count(17), 0);
        Check.same("append begins again", clock.append('x'), 1);
        Check.same("and is read again", clock.firstError(), 0);
    }

    private static void firstError() {
        errorAt("", 0);
        errorAt("g", 1);
        errorAt("x", 0);
        errorAt("G1/1", 0);
        errorAt("1", 0);
        errorAt(",", 0);
        errorAt("/", 0);
        errorAt("gs", 1);
        errorAt("g/", 1);
        errorAt("g0", 1);
        errorAt("g01", 1);
        errorAt("g200", 4);
        errorAt("g201", 3);
        errorAt("g199/", 5);
        errorAt("g210", 3);
        errorAt("g20", 3);
        errorAt("g21", 3);
        errorAt("g1000", 4);
        errorAt("g2000", 4);
        errorAt("g100", 4);
        errorAt("g5,", 2);
        errorAt("g5//", 3);
        errorAt("g5/,", 3);
        errorAt("g5/0", 3);
        errorAt("g5/g", 3);
        errorAt("g5/720", 6);
        errorAt("g5/721", 5);
        errorAt("g5/73", 5);
        errorAt("g5/730", 5);
        errorAt("g5/7200", 6);
        errorAt("g5/72,", 6);
        errorAt("g5/72/", 5);
        errorAt("g5/72g", 5);
        errorAt("g5/72,,", 6);
        errorAt("g5/72,c", 7);
        errorAt("g5/72,c1/1,s1/1", 15);
        errorAt("g5/72,c1/1,s1/1:", 15);
        errorAt("g5/72,x!!", 6);
        errorAt("g5:", 2);
        errorAt("g5/1/", 4);
        errorAt("g1/1,g1/1,g1/1,g1/1,g1/1,g1/1,g1/1,g1/1,g1/1,g1/1,g1/1,g1/1,", 60);
        errorAt("g1/1,g1/1,g1/1,g1/1,g1/1,g1/1,g1/1,g1/1,g1/1,g1/1,g1/1,g1/1;", 59);
    }

    private static void errorAt(String signs, int due) {
        RemontoirClock clock = new RemontoirClock();
        Check.type(clock, signs);
        long before = clock.digest();
        Check.same("firstError of " + signs, clock.firstError(), due);
        Check.same("nothing is changed", clock.digest(), before);
    }

    private static void load() {
        RemontoirClock clock = new RemontoirClock();
        clock.hire(0, 9, 9);
        clock.hire(0, 9, 9);
        clock.pass(20);
        Check.type(clock, "g1/720,s200/1,c37/68,g10/10,s20/200,c9/9");
        Check.same("load", clock.load(), 6);
        int[][] rounds = {{0, 1, 720}, {1, 200, 1}, {2, 37, 68}, {0, 10, 10}, {1, 20, 200}, {2, 9, 9}};
        for (int i = 0; i < rounds.length; i++) {
            for (int what = 0; what < 3; what++) {
                Check.same("winder(" + i + ", " + what + ")", clock.winder(i, what), rounds[i][what]);
            }
            Check.same("due behind his period", clock.winder(i, 3), rounds[i][2]);
            Check.same("new", clock.winder(i, 4), 0);
        }
        Check.same("the buffer is cleared", clock.clearBuffer(), 0);
        Check.same("one state is saved", clock.count(17), 4);
        Check.type(clock, "c5/6");
        Check.same("one round", clock.load(), 1);
        Check.same("winders", clock.count(14), 1);
        clock.undo();
        Check.same("undone", clock.count(14), 6);
        clock.undo();
        Check.same("the old ones are back", clock.count(14), 2);
        Check.same("with their comings", clock.winder(0, 4), 2);
    }

    private static void loadRefuses() {
        String[] wrong = {"", "g", "g1", "g1/", "g1/1,", "g1/1,s", "x", "g1/1x", "g0/1", "g1/721", "g201/1",
            "g1/1,g1/1,g1/1,g1/1,g1/1,g1/1,g1/1,", "g1/1,,g1/1"};
        for (String signs : wrong) {
            RemontoirClock clock = new RemontoirClock();
            clock.hire(1, 2, 3);
            Check.type(clock, signs);
            Check.refuses("load of " + signs, clock, Check.NO_ARGUMENT, clock::load);
            Check.same("the buffer stays", clock.clearBuffer(), signs.length());
        }
        RemontoirClock clock = new RemontoirClock();
        Check.type(clock, "g1/1,g1/1,g1/1,g1/1,g1/1,g1/1,g1/1");
        Check.refuses("load of seven rounds", clock, Check.NO_STATE, clock::load);
        Check.type(clock, "x");
        Check.refuses("load of seven rounds with an error", clock, Check.NO_ARGUMENT, clock::load);
    }

    private static void undoAndTheBuffer() {
        RemontoirClock clock = new RemontoirClock();
        Check.refuses("undo of nothing", clock, Check.NO_STATE, clock::undo);
        clock.setSnow(3);
        Check.type(clock, "s3/4");
        Check.same("undo", clock.undo(), 0);
        Check.same("snow", clock.count(3), 0);
        Check.same("the buffer stays", clock.firstError(), 4);
        clock.load();
        clock.undo();
        Check.same("undo of load gives back no buffer", clock.clearBuffer(), 0);
        Check.same("but the winders", clock.count(14), 0);
    }

    private static void undoSixStates() {
        RemontoirClock clock = new RemontoirClock();
        for (int i = 1; i <= 9; i++) {
            clock.setSnow(i);
            Check.same("saved", clock.count(17), Math.min(i, 6));
        }
        for (int i = 8; i >= 5; i--) {
            Check.same("undo", clock.undo(), i - 3);
            Check.same("snow", clock.count(3), i);
        }
        clock.setHands(5);
        Check.same("saved", clock.count(17), 3);
        Check.same("undo", clock.undo(), 2);
        Check.same("hands", clock.count(1), 0);
        Check.same("snow", clock.count(3), 5);
        clock.undo();
        Check.same("undo", clock.undo(), 0);
        Check.same("the oldest that was kept", clock.count(3), 3);
        Check.refuses("undo", clock, Check.NO_STATE, clock::undo);
    }

    private static void undoGivesBackAll() {
        RemontoirClock clock = new RemontoirClock();
        clock.set(3, 1);
        clock.hire(0, 5, 50);
        clock.setSnow(9);
        clock.pass(20);
        clock.setSnow(1);
        long before = clock.digest();
        clock.pass(500);
        Check.isTrue("pass changes the digest", clock.digest() != before);
        clock.undo();
        Check.same("digest", clock.digest(), before);
        clock.set(0, 3);
        clock.dismiss(0);
        clock.hire(1, 1, 1);
        clock.undo();
        clock.undo();
        clock.undo();
        Check.isTrue("the number of saved states counts too", clock.digest() != before);
        Check.same("charge", clock.count(2), 6);
        Check.same("winders", clock.winder(0, 2), 50);
    }

    private static void undoGivesBackDebts() {
        RemontoirClock clock = new RemontoirClock();
        clock.set(3, 2);
        clock.setHands(659);
        clock.pass(1);
        clock.setHands(479);
        clock.pass(20);
        Check.same("no debt is left", clock.count(5), 0);
        clock.setHands(239);
        clock.pass(1);
        Check.same("a new one", clock.debt(0, 0), 4);
        for (int i = 0; i < 3; i++) {
            clock.undo();
        }
        Check.same("one debt", clock.count(5), 1);
        Check.same("for its own hour", clock.debt(0, 0), 11);
        Check.same("with its own strokes", clock.debt(0, 1), 9);
    }
}
