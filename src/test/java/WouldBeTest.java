/** Promises 21 to 28: what would be. */
public final class WouldBeTest {
    public static void main(String[] args) {
        whyHands();
        whyStrokes();
        whyWinders();
        ifPassed();
        standsIn();
        standsInAtItsEnd();
        paidIn();
        paidInAtItsEnd();
        leastTurns();
        leastTurnsWithWinders();
        leastTurnsWhereStrikersAreKeptOut();
        leastTurnsWhereMoreIsWorse();
        downFirst();
        downFirstAtItsEnd();
        lostShare();
        digest();
        digestOfManyShares();
        refusals();
        Check.end();
    }

    private static void whyHands() {
        RemontoirClock clock = new RemontoirClock();
        Check.same("they go on", clock.why(0), 0);
        clock.setSnow(9);
        Check.same("it would slip", clock.why(0), 2);
        clock.set(2, 9);
        Check.same("the grip holds", clock.why(0), 0);
        clock.pass(210);
        clock.setSnow(20);
        Check.same("it would stand, and does not slip", clock.why(0), 1);
        clock.hire(0, 1, 1);
        Check.same("he is not due in this minute", clock.why(0), 1);
        clock.pass(1);
        Check.same("he would come, then it would slip", clock.why(0), 2);
        clock.setSnow(0);
        Check.same("he would come, and they go on", clock.why(0), 0);
        Check.same("nobody came for that", clock.winder(0, 4), 0);
        RemontoirClock worn = new RemontoirClock();
        worn.setSnow(20);
        worn.pass(5);
        worn.setSnow(8);
        Check.same("the wear counts", worn.why(0), 2);
    }

    private static void whyStrokes() {
        RemontoirClock clock = new RemontoirClock();
        Check.same("no debt", clock.why(1), 1);
        clock.setHands(719);
        Check.same("the debt would come in this minute", clock.why(1), 0);
        Check.same("nothing is owed by that", clock.count(5), 0);
        clock.set(4, 12);
        Check.same("forgiven at once: no debt", clock.why(1), 1);
        clock.set(4, 0);
        clock.pass(1);
        Check.same("a debt", clock.why(1), 0);
        clock.set(4, 1);
        clock.set(5, 1);
        clock.setHands(58);
        Check.same("not silent yet", clock.why(1), 0);
        clock.setHands(59);
        Check.same("silent by the time behind part 3", clock.why(1), 2);
        clock.setHands(119);
        Check.same("silent no longer", clock.why(1), 0);
        RemontoirClock down = new RemontoirClock();
        down.set(3, 12);
        for (int i = 0; i < 17; i++) {
            down.setHands(719);
            down.pass(1);
        }
        Check.same("the weight is down", down.why(1), 3);
        down.hire(1, 1, 1);
        Check.same("he is not due in this minute", down.why(1), 3);
        down.setSnow(20);
        down.pass(1);
        Check.same("he would come, and a stroke is struck", down.why(1), 0);
        down.set(4, 12);
        Check.same("silence is told first", down.why(1), 2);
        down.forgive();
        Check.same("no debt is told before it", down.why(1), 1);
    }

    private static void whyWinders() {
        RemontoirClock clock = new RemontoirClock();
        Check.same("no winders", clock.why(2), 1);
        clock.hire(1, 1, 2);
        Check.same("none is due", clock.why(2), 2);
        clock.pass(1);
        Check.same("none is due yet", clock.why(2), 2);
        clock.pass(1);
        Check.same("he would come", clock.why(2), 0);
        clock.set(3, 1);
        clock.setHands(719);
        clock.pass(1);
        Check.same("he came and is not due", clock.why(2), 2);
        clock.pass(1);
        Check.same("he is kept out", clock.why(2), 3);
        clock.hire(2, 1, 2);
        Check.same("the other one is not due", clock.why(2), 3);
        clock.pass(2);
        Check.same("the other one would come", clock.why(2), 0);
        clock.dismiss(0);
        clock.dismiss(0);
        Check.same("no winders again", clock.why(2), 1);
    }

    private static void ifPassed() {
        RemontoirClock clock = new RemontoirClock();
        clock.hire(0, 9, 31);
        clock.hire(1, 2, 50);
        clock.set(4, 3);
        clock.set(5, 2);
        clock.set(3, 1);
        clock.setHands(30);
        clock.setSnow(8);
        long before = clock.digest();
        int[] minutes = {1, 2, 30, 90, 150, 330, 719, 720};
        for (int length : minutes) {
            int[] told = new int[10];
            for (int what = 0; what < 10; what++) {
                told[what] = clock.ifPassed(length, what);
            }
            Check.same("nothing is changed", clock.digest(), before);
            clock.pass(length);
            int[] due = {clock.weight(0, 0), clock.weight(1, 0), clock.weight(2, 0), clock.count(1), clock.count(6),
                clock.count(7), clock.count(8), clock.count(10), clock.count(11), clock.count(12)};
            for (int what = 0; what < 10; what++) {
                Check.same("ifPassed(" + length + ", " + what + ")", told[what], due[what]);
            }
            clock.undo();
            clock.setHands(30);
            clock.undo();
            before = clock.digest();
        }
        Check.same("by hand: time", new RemontoirClock().ifPassed(720, 3), 210);
        Check.same("by hand: stood", new RemontoirClock().ifPassed(720, 9), 510);
        Check.same("by hand: going", new RemontoirClock().ifPassed(9, 0), 192);
        Check.same("by hand: chiming", new RemontoirClock().ifPassed(60, 2), 180);
        Check.same("by hand: struck", new RemontoirClock().ifPassed(180, 5), 6);
    }

    private static void standsIn() {
        RemontoirClock clock = new RemontoirClock();
        Check.same("charge and height", clock.standsIn(), 210);
        clock.setSnow(20);
        Check.same("who slips uses as much", clock.standsIn(), 210);
        clock.pass(209);
        Check.same("in one", clock.standsIn(), 1);
        clock.pass(1);
        Check.same("now", clock.standsIn(), 0);
        clock.pass(1);
        Check.same("now, and it stood before", clock.standsIn(), 0);
        clock.wind(0, 1);
        Check.same("one turn", clock.standsIn(), 1);
        clock.hire(0, 1, 1);
        Check.same("one turn in each minute is enough", clock.standsIn(), RemontoirClock.NONE);
        clock.dismiss(0);
        clock.hire(0, 1, 2);
        Check.same("one turn in two is not", clock.standsIn(), 1);
    }

    private static void standsInAtItsEnd() {
        PlainClock plain = new PlainClock();
        plain.hire(0, 200, 201);
        int passed = 0;
        while (plain.count(12) == 0 && passed < 5000) {
            plain.pass(1);
            passed++;
        }
        int stands = passed - 1;
        Check.isTrue("it goes for long: " + stands, stands > 1501 && stands < 4000);
        RemontoirClock clock = new RemontoirClock();
        clock.hire(0, 200, 201);
        Bring.minuteNumberTo(clock, stands - 1501);
        Check.same("1501 is too far", clock.standsIn(), RemontoirClock.NONE);
        clock.pass(1);
        Check.same("1500 is not", clock.standsIn(), 1500);
    }

    private static void paidIn() {
        RemontoirClock clock = new RemontoirClock();
        Check.same("nothing is owed", clock.paidIn(), 0);
        clock.setHands(719);
        Check.same("nothing is owed now", clock.paidIn(), 0);
        clock.set(3, 5);
        clock.pass(1);
        Check.same("seven by five", clock.paidIn(), 2);
        clock.set(3, 1);
        Check.same("seven by one", clock.paidIn(), 7);
        clock.set(4, 12);
        Check.same("silent hours: the sixth ends behind 360 minutes, but it stands", clock.paidIn(), -1);
        clock.set(5, 1);
        Check.same("an hour, with one of the strokes in its last minute", clock.paidIn(), 60 - 1 + 8);
    }

    private static void paidInAtItsEnd() {
        Check.same("719", debtUntilWinderComes(718).paidIn(), 719);
        Check.same("720", debtUntilWinderComes(719).paidIn(), 720);
        Check.same("721 is too far", debtUntilWinderComes(720).paidIn(), RemontoirClock.NONE);
    }

    /** Hands that slip, a striking weight that is down, and who winds it when his period is over. */
    private static RemontoirClock debtUntilWinderComes(int period) {
        RemontoirClock clock = new RemontoirClock();
        clock.set(3, 12);
        for (int i = 0; i < 17; i++) {
            clock.setHands(719);
            clock.pass(1);
        }
        clock.setSnow(20);
        clock.hire(1, 4, period);
        return clock;
    }

    private static void leastTurns() {
        RemontoirClock clock = new RemontoirClock();
        Check.same("it has enough", clock.leastTurns(210), 0);
        Check.same("a full weight takes no more", clock.leastTurns(211), RemontoirClock.NONE);
        clock.pass(100);
        Check.same("height", clock.weight(0, 0), 104);
        Check.same("charge", clock.count(2), 6);
        Check.same("leastTurns(1)", clock.leastTurns(1), 0);
        Check.same("leastTurns(110)", clock.leastTurns(110), 0);
        Check.same("leastTurns(111)", clock.leastTurns(111), 1);
        Check.same("leastTurns(150)", clock.leastTurns(150), 40);
        Check.same("leastTurns(206)", clock.leastTurns(206), 96);
        Check.same("leastTurns(207)", clock.leastTurns(207), RemontoirClock.NONE);
        clock.pass(110);
        Check.same("it stands", clock.why(0), 1);
        Check.same("one turn for one minute", clock.leastTurns(1), 1);
        Check.same("leastTurns(200)", clock.leastTurns(200), 200);
        Check.same("leastTurns(201)", clock.leastTurns(201), RemontoirClock.NONE);
    }

    private static void leastTurnsWithWinders() {
        RemontoirClock clock = new RemontoirClock();
        clock.pass(210);
        clock.hire(0, 30, 20);
        Check.same("until he comes", clock.leastTurns(20), 20);
        Check.same("in the minute in which he comes", clock.leastTurns(21), 20);
        Check.same("on and on", clock.leastTurns(720), 20);
        clock.hire(2, 30, 20);
        clock.dismiss(0);
        clock.hire(0, 30, 20);
        Check.same("the other one comes first", clock.leastTurns(21), 21);
    }

    /** If the clock goes on until the hour, the striking winder is kept out, and the other one comes first. */
    private static void leastTurnsWhereStrikersAreKeptOut() {
        RemontoirClock clock = new RemontoirClock();
        clock.set(3, 1);
        clock.pass(205);
        clock.setHands(710);
        clock.hire(1, 5, 12);
        clock.hire(0, 50, 12);
        Check.same("charge", clock.count(2), 5);
        Check.same("until the going winder comes", clock.leastTurns(12), 7);
        Check.same("when he comes", clock.leastTurns(13), 7);
        clock.setHands(10);
        Check.same("without an hour he comes a minute later", clock.leastTurns(13), 8);
    }

    /**
     * From the minute 704 on, 12 turns last until the first winder comes, in 716, with nothing to
     * spare: so the spring is rewound in 716 and in 724, and is all but full when the second one
     * fills the weight, in 725. With 15 turns it is rewound in 717, and then not before 725.
     */
    private static void leastTurnsWhereMoreIsWorse() {
        RemontoirClock clock = new RemontoirClock();
        clock.hire(0, 200, 716);
        clock.pass(9);
        clock.hire(0, 200, 716);
        clock.pass(695);
        Check.same("it stands", clock.why(0), 1);
        int minutes = 725 + 209 - 704;
        Check.isTrue("11 are not enough", !isEnough(clock, 11, minutes));
        Check.isTrue("12 are enough", isEnough(clock, 12, minutes));
        Check.isTrue("15 are not", !isEnough(clock, 15, minutes));
        Check.isTrue("200 are not", !isEnough(clock, 200, minutes));
        Check.same("leastTurns", clock.leastTurns(minutes), 12);
        Check.same("for a minute more none is enough", clock.leastTurns(minutes + 1), RemontoirClock.NONE);
        PlainClock plain = new PlainClock();
        plain.hire(0, 200, 716);
        plain.pass(9);
        plain.hire(0, 200, 716);
        plain.pass(695);
        for (int length = 200; length <= 260; length++) {
            Check.same("leastTurns(" + length + ")", clock.leastTurns(length), plain.leastTurns(length));
        }
    }

    private static boolean isEnough(RemontoirClock clock, int turns, int minutes) {
        if (turns > 0) {
            clock.wind(0, turns);
        }
        boolean enough = clock.ifPassed(minutes, 9) == clock.count(12);
        if (turns > 0) {
            clock.undo();
        }
        return enough;
    }

    private static void downFirst() {
        RemontoirClock clock = new RemontoirClock();
        Check.same("the going weight, behind 201 minutes", clock.downFirst(), 0);
        clock.set(3, 12);
        for (int i = 0; i < 14; i++) {
            clock.setHands(719);
            clock.pass(1);
        }
        clock.wind(2, 200);
        Check.same("height", clock.weight(1, 0), 32);
        Check.same("the going weight is before it", clock.downFirst(), 0);
        clock.wind(0, 200);
        for (int i = 0; i < 2; i++) {
            clock.setHands(719);
            clock.pass(1);
        }
        clock.setHands(599);
        Check.same("the striking weight is before it", clock.downFirst(), 1);
        clock.pass(1);
        Check.same("now", clock.weight(1, 0), 0);
        Check.same("the striking weight is down", clock.downFirst(), 1);
        RemontoirClock chiming = new RemontoirClock();
        for (int i = 0; i < 25; i++) {
            chiming.setHands(59);
            chiming.pass(1);
        }
        Check.same("the chiming weight is down", chiming.downFirst(), 2);
        chiming.wind(2, 2);
        chiming.setHands(14);
        chiming.pass(1);
        chiming.wind(0, 200);
        Check.same("it still is", chiming.downFirst(), 2);
        chiming.pass(250);
        Check.same("of several the lowest number", chiming.downFirst(), 0);
        RemontoirClock kept = new RemontoirClock();
        kept.setSnow(20);
        kept.hire(0, 2, 1);
        Check.same("none", kept.downFirst(), RemontoirClock.NONE);
    }

    private static void downFirstAtItsEnd() {
        PlainClock plain = new PlainClock();
        plain.hire(0, 20, 14);
        plain.hire(1, 30, 50);
        plain.hire(2, 13, 60);
        int passed = 0;
        while (plain.weight(2, 0) > 0 && passed < 5000) {
            plain.pass(1);
            passed++;
        }
        Check.isTrue("it lasts for long: " + passed, passed > 1501 && passed < 4000);
        RemontoirClock clock = new RemontoirClock();
        clock.hire(0, 20, 14);
        clock.hire(1, 30, 50);
        clock.hire(2, 13, 60);
        Bring.minuteNumberTo(clock, passed - 1501);
        Check.same("1501 is too far", clock.downFirst(), RemontoirClock.NONE);
        clock.pass(1);
        Check.same("1500 is not", clock.downFirst(), 2);
    }

    private static void lostShare() {
        RemontoirClock clock = new RemontoirClock();
        Check.sameDouble("new", clock.lostShare(), 0.0);
        clock.pass(3);
        Check.sameDouble("nothing lost", clock.lostShare(), 0.0);
        clock.setSnow(20);
        clock.pass(2);
        Check.sameDouble("two of five", clock.lostShare(), 2.0 / 5.0);
        clock.setSnow(0);
        clock.pass(206);
        Check.sameDouble("and one that it stood", clock.lostShare(), 3.0 / 211.0);
        clock.undo();
        clock.undo();
        clock.undo();
        Check.sameDouble("undone", clock.lostShare(), 0.0);
        RemontoirClock all = new RemontoirClock();
        all.setSnow(20);
        all.pass(1);
        Check.sameDouble("one of one", all.lostShare(), 1.0);
        all.pass(76);
        Check.sameDouble("all", all.lostShare(), 1.0);
    }

    private static void digest() {
        RemontoirClock clock = new RemontoirClock();
        Check.same("new", clock.digest(), Digests.of(clock, ""));
        Check.type(clock, "g1/1~!");
        Check.same("with a text", clock.digest(), Digests.of(clock, "g1/1~!"));
        clock.set(3, 1);
        clock.setHands(719);
        clock.pass(1);
        clock.setHands(59);
        clock.pass(1);
        clock.hire(0, 20, 70);
        clock.hire(1, 21, 1);
        clock.setSnow(9);
        Check.same("with debts and winders", clock.digest(), Digests.of(clock, "g1/1~!"));
        clock.pass(333);
        Check.same("with wear", clock.digest(), Digests.of(clock, "g1/1~!"));
        clock.clearBuffer();
        Check.same("without the text", clock.digest(), Digests.of(clock, ""));
        Check.same("asked twice", clock.digest(), clock.digest());
        RemontoirClock turns = new RemontoirClock();
        turns.pass(100);
        turns.hire(0, 60, 130);
        Check.same("leastTurns that depends on the minutes", turns.leastTurns(240), 70);
        Check.same("digest with it", turns.digest(), Digests.of(turns, ""));
    }

    private static void digestOfManyShares() {
        for (int lost = 0; lost <= 40; lost++) {
            for (int passes = 1; passes < 9; passes++) {
                RemontoirClock clock = clockThatLost(lost, passes);
                Check.same("digest of " + lost, clock.digest(), Digests.of(clock, ""));
            }
        }
    }

    private static RemontoirClock clockThatLost(int lost, int passes) {
        RemontoirClock clock = new RemontoirClock();
        clock.hire(0, 50, 40);
        clock.setSnow(20);
        for (int i = 0; i < lost; i++) {
            clock.pass(1);
        }
        clock.setSnow(0);
        for (int i = 1; i <= passes; i++) {
            clock.mend();
            clock.pass(i * i * 11);
        }
        return clock;
    }

    private static void refusals() {
        RemontoirClock clock = new RemontoirClock();
        Check.refuses("why(-1)", clock, Check.NO_ARGUMENT, () -> clock.why(-1));
        Check.refuses("why(3)", clock, Check.NO_ARGUMENT, () -> clock.why(3));
        Check.refuses("ifPassed(0, 0)", clock, Check.NO_ARGUMENT, () -> clock.ifPassed(0, 0));
        Check.refuses("ifPassed(721, 0)", clock, Check.NO_ARGUMENT, () -> clock.ifPassed(721, 0));
        Check.refuses("ifPassed(1, -1)", clock, Check.NO_ARGUMENT, () -> clock.ifPassed(1, -1));
        Check.refuses("ifPassed(1, 10)", clock, Check.NO_ARGUMENT, () -> clock.ifPassed(1, 10));
        Check.refuses("ifPassed(min, max)", clock, Check.NO_ARGUMENT,
                () -> clock.ifPassed(Integer.MIN_VALUE, Integer.MAX_VALUE));
        Check.refuses("leastTurns(0)", clock, Check.NO_ARGUMENT, () -> clock.leastTurns(0));
        Check.refuses("leastTurns(721)", clock, Check.NO_ARGUMENT, () -> clock.leastTurns(721));
        Check.refuses("leastTurns(-720)", clock, Check.NO_ARGUMENT, () -> clock.leastTurns(-720));
    }
}
