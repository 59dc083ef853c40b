/** The edges of the promises 21 to 28. */
final class EdgesOfWouldBe {
    private static final int NONE = RemontoirClock.NONE;

    private EdgesOfWouldBe() {
    }

    static void run() {
        whyIsAsked();
        whyHands();
        whyStrokes();
        whyStrokesBehindParts1To5();
        whyWinders();
        ifPassed();
        ifPassedRefuses();
        standsIn();
        paidIn();
        leastTurns();
        leastTurnsOfMinutes();
        downFirst();
        downFirstOfSeveral();
        lostShare();
        digestOfEdges();
    }

    private static void emptyWith(RemontoirClock clock, int charge) {
        Bring.goingTo(clock, 0);
        Bring.chargeTo(clock, charge);
    }

    private static void whyIsAsked() {
        String promise = "Promise 21";
        Sentences.noEdge(promise, "Tells why something would not happen in the next minute.");
        Sentences.about(promise,
                "`what`: 0: that the hands go on; 1: that a stroke is struck; 2: that a winder comes");
        RemontoirClock clock = Twins.made(one -> emptyWith(one, 0));
        Check.same("the hands do not go on", clock.why(0), 1);
        Check.same("no stroke, no debt", clock.why(1), 1);
        clock.hire(2, 1, 1);
        Check.same("no winder comes", clock.why(2), 2);
        Sentences.about(promise, "Returns 0 if it would happen.");
        Check.same("the hands go on", new RemontoirClock().why(0), 0);
        Check.same("a stroke is struck", Twins.made(one -> one.setHands(719)).why(1), 0);
        clock.pass(1);
        Check.same("a winder comes", clock.why(2), 0);
        Sentences.about(promise, "Throws `IllegalArgumentException` if what is not 0 to 2");
        for (int what : new int[] {-1, 3, Integer.MIN_VALUE, Integer.MAX_VALUE}) {
            Twins.refuse("why(" + what + ")", Check.NO_ARGUMENT, one -> one.why(what));
        }
    }

    private static void whyHands() {
        Sentences.about("Promise 21", "Otherwise for 0: 1 if the clock would stand, 2 if the pinion would slip.");
        Check.same("a charge of 1", Twins.made(one -> emptyWith(one, 1)).why(0), 0);
        RemontoirClock clock = Twins.made(one -> emptyWith(one, 0));
        Check.same("a charge of 0", clock.why(0), 1);
        clock.setSnow(20);
        Check.same("who stands does not slip", clock.why(0), 1);
        clock.setSnow(0);
        clock.wind(0, 1);
        Check.same("a turn that would be rewound", clock.why(0), 0);
        clock.undo();
        clock.hire(0, 1, 1);
        Check.same("who is not due yet does not help", clock.why(0), 1);
        clock.pass(1);
        Check.same("who would come does", clock.why(0), 0);
        RemontoirClock snow = new RemontoirClock();
        snow.setSnow(8);
        Check.same("snow as the grip", snow.why(0), 0);
        snow.setSnow(9);
        Check.same("snow above it", snow.why(0), 2);
        snow.pass(5);
        snow.setSnow(7);
        Check.same("snow as the grip minus the wear", snow.why(0), 0);
        snow.setSnow(8);
        Check.same("snow above that", snow.why(0), 2);
    }

    private static void whyStrokes() {
        Sentences.about("Promise 21", "For 1: 1 if in part 6 of the minute (behind its parts 1 to 5) there would be no"
                + " debt, else 2 if the clock would be silent then, else 3 (the height of the striking weight would be"
                + " 0).");
        RemontoirClock clock = Twins.made(one -> Bring.debtsOf(one, 2));
        clock.setHands(1);
        Check.same("height 0", clock.why(1), 3);
        clock.set(4, 12);
        Check.same("silent, height 0", clock.why(1), 2);
        clock.forgive();
        Check.same("no debt, silent, height 0", clock.why(1), 1);
        clock.set(4, 0);
        Check.same("no debt, height 0", clock.why(1), 1);
        RemontoirClock high = Twins.made(one -> Bring.debtsOf(one, 2));
        high.setHands(1);
        high.wind(1, 1);
        Check.same("height 1", high.why(1), 0);
        high.pass(1);
        Check.same("height 0 again", high.why(1), 3);
        high.wind(1, 1);
        high.pass(1);
        Check.same("the debt is paid", high.why(1), 1);
    }

    private static int whyStrokeAt(int time, int snow, int firstHour) {
        RemontoirClock clock = Twins.made(one -> one.setHands(time));
        clock.setSnow(snow);
        clock.set(4, firstHour);
        clock.set(5, 1);
        return clock.why(1);
    }

    private static int whyOldStrokeAt(int time, int firstHour) {
        RemontoirClock clock = new RemontoirClock();
        clock.set(3, 1);
        Bring.minuteTo(clock, 0);
        clock.setHands(time);
        clock.set(4, firstHour);
        clock.set(5, 1);
        return clock.why(1);
    }

    private static void whyStrokesBehindParts1To5() {
        Check.same("the debt would not come yet", whyStrokeAt(58, 0, 0), 1);
        Check.same("the debt would come in part 5", whyStrokeAt(59, 0, 0), 0);
        Check.same("not if the pinion slips", whyStrokeAt(59, 9, 0), 1);
        Check.same("the time is that of an hour already", whyStrokeAt(60, 0, 0), 1);
        Check.same("forgiven at once", whyStrokeAt(59, 0, 1), 1);
        Check.same("silent until part 3", whyStrokeAt(59, 0, 12), 0);
        Check.same("an older debt, silent until part 3", whyOldStrokeAt(59, 12), 0);
        Check.same("an older debt, silent from part 3 on", whyOldStrokeAt(59, 1), 2);
        Check.same("an older debt, silent in the minute behind", whyOldStrokeAt(58, 1), 0);
        Check.same("an older debt, silent all the hour", whyOldStrokeAt(58, 12), 2);
        RemontoirClock stands = Twins.made(one -> emptyWith(one, 0));
        stands.setHands(59);
        Check.same("no debt comes if the clock stands", stands.why(1), 1);
        RemontoirClock winder = Twins.made(one -> Bring.debtsOf(one, 2));
        winder.hire(1, 1, 1);
        Check.same("he would not come in part 1", winder.why(1), 3);
        winder.pass(1);
        Check.same("he would come in part 1", winder.why(1), 0);
        RemontoirClock fifth = Twins.made(one -> Bring.debtsOf(one, 2, 3, 4, 5));
        fifth.setHands(719);
        Check.same("a fifth debt does not help", fifth.why(1), 3);
    }

    private static void whyWinders() {
        Sentences.about("Promise 21", "For 2: 1 if there are no winders, else 2 if none is due, else 3 (all that are due"
                + " are kept out).");
        RemontoirClock clock = Twins.made(one -> Bring.debtsOf(one, 12));
        clock.set(3, 1);
        Check.same("no winders", clock.why(2), 1);
        clock.hire(1, 3, 1);
        Check.same("none is due in the minute of the hiring", clock.why(2), 2);
        clock.pass(1);
        Check.same("due, a debt, height 0: he would come", clock.why(2), 0);
        clock.wind(1, 9);
        Check.same("due, a debt, height 9: kept out", clock.why(2), 3);
        clock.hire(2, 1, 2);
        Check.same("another one who is not due", clock.why(2), 3);
        clock.pass(1);
        Check.same("still not due", clock.why(2), 3);
        clock.pass(1);
        Check.same("now he is", clock.why(2), 0);
        clock.dismiss(1);
        clock.hire(1, 1, 1);
        clock.pass(1);
        Check.same("two are kept out", clock.why(2), 3);
        clock.forgive();
        Check.same("no debt: one would come", clock.why(2), 0);
        clock.dismiss(1);
        clock.dismiss(0);
        Check.same("no winders any more", clock.why(2), 1);
    }

    private static int answer(RemontoirClock clock, int what) {
        int[] counts = {1, 6, 7, 8, 10, 11, 12};
        return what <= 2 ? clock.weight(what, 0) : clock.count(counts[what - 3]);
    }

    private static void loses(RemontoirClock clock) {
        clock.hire(0, 150, 280);
        clock.hire(1, 10, 100);
        clock.set(3, 1);
        clock.set(4, 5);
        clock.set(5, 1);
        clock.setHands(180);
        clock.setSnow(9);
        clock.pass(2);
        clock.setSnow(8);
        clock.pass(3);
    }

    private static void ifPassed() {
        String promise = "Promise 22";
        Sentences.noEdge(promise, "Tells what would be after some minutes.");
        Sentences.noEdge(promise, "Returns the number.");
        Sentences.about(promise, "`minutes`: 1 to 720");
        for (Twins.Calls making : new Twins.Calls[] {Twins.NEW, Twins.BUSY, EdgesOfWouldBe::loses}) {
            for (int minutes : new int[] {1, 2, 60, 719, 720}) {
                RemontoirClock clock = Twins.made(making);
                RemontoirClock passed = Twins.made(making);
                passed.pass(minutes);
                for (int what = 0; what <= 9; what++) {
                    Check.same("ifPassed(" + minutes + ", " + what + ")", clock.ifPassed(minutes, what),
                            answer(passed, what));
                }
            }
        }
        Sentences.about(promise, "`what`: 0 to 2: the height of this weight; 3: the time that the hands show; 4: strokes"
                + " that are owed; 5: strokes struck so far; 6: strokes forgiven so far; 7: phrases missed so far;"
                + " 8: slips so far; 9: minutes in which the clock stood so far");
        int[] due = {0, 199, 180, 60, 0, 1, 0, 0, 0, 0};
        RemontoirClock clock = new RemontoirClock();
        due[0] = 200 - 56;
        for (int what = 0; what <= 9; what++) {
            Check.same("an hour, " + what, clock.ifPassed(60, what), due[what]);
        }
        RemontoirClock lost = Twins.made(one -> Bring.strikingTo(one, 0));
        Bring.chimingTo(lost, 1);
        emptyWith(lost, 2);
        lost.setHands(58);
        Check.same("missed", lost.ifPassed(3, 7), 4);
        Check.same("owed", lost.ifPassed(3, 4), 1);
        Check.same("stood", lost.ifPassed(3, 9), 1);
        lost.set(4, 1);
        Check.same("forgiven", lost.ifPassed(3, 6), 1);
        lost.setSnow(9);
        Check.same("slips", lost.ifPassed(3, 8), 2);
    }

    private static void ifPassedRefuses() {
        Sentences.about("Promise 22", "Throws `IllegalArgumentException` if minutes or what is out of range");
        for (int minutes : new int[] {0, -1, 721, Integer.MIN_VALUE, Integer.MAX_VALUE}) {
            Twins.refuse("ifPassed(" + minutes + ", 0)", Check.NO_ARGUMENT, one -> one.ifPassed(minutes, 0));
            Twins.refuse("ifPassed(" + minutes + ", 9)", Check.NO_ARGUMENT, one -> one.ifPassed(minutes, 9));
            Twins.refuse("ifPassed(both)", Check.NO_ARGUMENT, one -> one.ifPassed(minutes, 10));
        }
        for (int what : new int[] {-1, 10, Integer.MIN_VALUE, Integer.MAX_VALUE}) {
            Twins.refuse("ifPassed(1, " + what + ")", Check.NO_ARGUMENT, one -> one.ifPassed(1, what));
            Twins.refuse("ifPassed(720, " + what + ")", Check.NO_ARGUMENT, one -> one.ifPassed(720, what));
        }
    }

    /**
     * He comes every 201 minutes to a weight that is down, so of the first 10 turns of the spring one
     * is lost each time: the last one is used when he comes in the minute 2010, then 200 turns last.
     */
    private static void standsIn2210(RemontoirClock clock) {
        clock.hire(0, 200, 201);
    }

    private static void standsIn() {
        String promise = "Promise 23";
        Sentences.noEdge(promise, "Tells after how many minutes the clock would stand.");
        Sentences.about(promise, "Returns the least number of minutes, 0 to 1500, that would have to pass so that the"
                + " clock would stand in the minute behind them (1501 minutes are looked at); NONE if there is none.");
        for (int charge = 0; charge <= 10; charge++) {
            int left = charge;
            Check.same("a charge of " + charge, Twins.made(one -> emptyWith(one, left)).standsIn(), charge);
        }
        Check.same("a new clock", new RemontoirClock().standsIn(), 210);
        RemontoirClock clock = Twins.made(EdgesOfWouldBe::standsIn2210);
        Check.same("2210", clock.standsIn(), NONE);
        Bring.minuteNumberTo(clock, 709);
        Check.same("1501", clock.standsIn(), NONE);
        clock.pass(1);
        Check.same("1500", clock.standsIn(), 1500);
        clock.pass(1);
        Check.same("1499", clock.standsIn(), 1499);
        Bring.minuteNumberTo(clock, 2210);
        Check.same("it never stood", clock.count(12), 0);
        Check.same("0", clock.standsIn(), 0);
        clock.pass(1);
        Check.same("he comes in the next one", clock.standsIn(), 200);
        Check.same("it stood once", clock.count(12), 1);
        clock.dismiss(0);
        Check.same("without him 0 again", clock.standsIn(), 0);
        clock.hire(0, 1, 1);
        clock.pass(1);
        Check.same("a turn in each minute", clock.standsIn(), NONE);
    }

    /** A debt while the striking weight is down and the hands stay; the winder comes behind the minutes told. */
    private static int paidInWithWinderDueIn(int period) {
        RemontoirClock clock = Twins.made(one -> Bring.debtsOf(one, 1));
        clock.setSnow(20);
        clock.hire(1, 1, period);
        return clock.paidIn();
    }

    private static void paidIn() {
        String promise = "Promise 24";
        Sentences.noEdge(promise, "Tells after how many minutes nothing would be owed.");
        Sentences.about(promise,
                "Returns the least number of minutes, 0 to 720, behind which there would be no debt; NONE if there is"
                        + " none.");
        Check.same("no debt", new RemontoirClock().paidIn(), 0);
        Check.same("none now, though one comes at once", Twins.made(one -> one.setHands(719)).paidIn(), 0);
        RemontoirClock twelve = new RemontoirClock();
        twelve.set(3, 1);
        Bring.minuteTo(twelve, 0);
        for (int left = 11; left >= 1; left--) {
            Check.same("strokes in as many minutes", twelve.paidIn(), left);
            twelve.pass(1);
        }
        Check.same("the last one is struck", twelve.paidIn(), 0);
        Check.same("2", paidInWithWinderDueIn(1), 2);
        Check.same("719", paidInWithWinderDueIn(718), 719);
        Check.same("720", paidInWithWinderDueIn(719), 720);
        Check.same("721", paidInWithWinderDueIn(720), NONE);
        RemontoirClock again = new RemontoirClock();
        again.set(3, 1);
        Bring.minuteTo(again, 60);
        Check.same("one stroke, struck at once", again.paidIn(), 0);
        Bring.minuteTo(again, 120);
        again.setHands(178);
        Check.same("paid before the next one comes", again.paidIn(), 1);
        again.setHands(179);
        Check.same("the next one comes in that minute", again.paidIn(), 4);
    }

    private static void leastTurnsAt(int height, int charge, int minutes, int due) {
        RemontoirClock clock = new RemontoirClock();
        Bring.goingTo(clock, height);
        Bring.chargeTo(clock, charge);
        String name = "height " + height + ", charge " + charge + ", leastTurns(" + minutes + ")";
        Check.same(name, clock.leastTurns(minutes), due);
        if (due > 0) {
            clock.wind(0, due);
            Check.same(name + ": as many are enough", clock.ifPassed(minutes, 9), clock.count(12));
            clock.undo();
        }
        if (due > 1) {
            clock.wind(0, due - 1);
            Check.same(name + ": 1 less are not", clock.ifPassed(minutes, 9), clock.count(12) + 1);
        }
    }

    private static void leastTurns() {
        String promise = "Promise 25";
        Sentences.noEdge(promise, "Tells by how much the going weight should be wound.");
        Sentences.about(promise, "Returns the least number of turns, 0 up to 200 minus its height, so that the clock"
                + " would not stand in any of the next minutes, as many as told, if the going weight was wound by so"
                + " much now; NONE if there is none.");
        leastTurnsAt(200, 10, 210, 0);
        leastTurnsAt(200, 10, 211, NONE);
        leastTurnsAt(199, 10, 209, 0);
        leastTurnsAt(199, 10, 210, 1);
        leastTurnsAt(199, 10, 211, NONE);
        leastTurnsAt(150, 10, 160, 0);
        leastTurnsAt(150, 10, 161, 1);
        leastTurnsAt(150, 10, 210, 50);
        leastTurnsAt(150, 10, 211, NONE);
        leastTurnsAt(0, 1, 1, 0);
        leastTurnsAt(0, 1, 2, 1);
        leastTurnsAt(0, 0, 1, 1);
        leastTurnsAt(0, 0, 199, 199);
        leastTurnsAt(0, 0, 200, 200);
        leastTurnsAt(0, 0, 201, NONE);
        RemontoirClock clock = Twins.made(one -> emptyWith(one, 0));
        clock.hire(0, 3, 1);
        Check.same("who comes behind the next minute", clock.leastTurns(1), 1);
        Check.same("then he helps", clock.leastTurns(720), 1);
        clock.pass(1);
        Check.same("who comes in the next one", clock.leastTurns(1), 0);
        Check.same("and in each one", clock.leastTurns(720), 0);
        leastTurnsUntilWinderComes();
    }

    private static void leastTurnsUntilWinderComes() {
        RemontoirClock clock = Twins.made(one -> emptyWith(one, 0));
        clock.hire(0, 30, 5);
        for (int minutes = 1; minutes <= 5; minutes++) {
            Check.same("until he comes, of " + minutes, clock.leastTurns(minutes), minutes);
        }
        Check.same("the minute in which he comes", clock.leastTurns(6), 5);
        Check.same("all behind it", clock.leastTurns(720), 5);
        clock.dismiss(0);
        clock.hire(0, 30, 40);
        Check.same("his 30 turns last for 30 minutes", clock.leastTurns(70), 40);
        Check.same("not for 31", clock.leastTurns(71), 41);
        for (int weight = 1; weight <= 2; weight++) {
            RemontoirClock other = Twins.made(one -> emptyWith(one, 0));
            other.hire(weight, 30, 5);
            Check.same("who winds another weight does not help", other.leastTurns(100), 100);
            other.hire(0, 30, 5);
            Check.same("and comes ahead of him who does", other.leastTurns(7), 6);
        }
        leastTurnsForTheHour();
    }

    /** The debt of an hour keeps the striking winder out, but it comes only if the clock goes on until then. */
    private static void leastTurnsForTheHour() {
        RemontoirClock clock = Twins.made(one -> emptyWith(one, 0));
        clock.set(3, 1);
        clock.setHands(716);
        clock.hire(1, 30, 5);
        clock.hire(0, 30, 5);
        Check.same("the striking winder is kept out", clock.leastTurns(6), 5);
        clock.setHands(1);
        Check.same("he comes first", clock.leastTurns(6), 6);
        clock.setHands(714);
        clock.set(3, 12);
        Check.same("the hour is struck before", clock.leastTurns(6), 5 + 1);
    }

    private static void leastTurnsOfMinutes() {
        String promise = "Promise 25";
        Sentences.about(promise, "`minutes`: 1 to 720");
        Check.same("1", new RemontoirClock().leastTurns(1), 0);
        RemontoirClock clock = Twins.made(one -> one.hire(0, 200, 200));
        Check.same("719", clock.leastTurns(719), 0);
        Check.same("720", clock.leastTurns(720), 0);
        Check.same("720 without him", new RemontoirClock().leastTurns(720), NONE);
        RemontoirClock last = Twins.made(EdgesOfWouldBe::standsIn2210);
        Bring.minuteNumberTo(last, 2210 - 719);
        Check.same("719 minutes to go", last.leastTurns(719), 0);
        Check.isTrue("the 720th minute counts", last.leastTurns(720) != 0);
        Sentences.about(promise, "Throws `IllegalArgumentException` if minutes is out of range");
        for (int minutes : new int[] {0, -1, 721, Integer.MIN_VALUE, Integer.MAX_VALUE}) {
            Twins.refuse("leastTurns(" + minutes + ")", Check.NO_ARGUMENT, one -> one.leastTurns(minutes));
        }
    }

    /**
     * Chimes in the hours 10, 11 and 12 alone: 30 phrases in 720 minutes, and 10 more up to the 100th at
     * 10 o'clock, behind 3 * 720 + 600 minutes. The going weight is wound, and of the strokes there are few.
     */
    private static void chimesUntil2760(RemontoirClock clock) {
        clock.set(4, 1);
        clock.set(5, 9);
        clock.hire(0, 10, 10);
    }

    private static void downFirst() {
        String promise = "Promise 26";
        Sentences.noEdge(promise, "Finds the weight that would be down first.");
        Sentences.about(promise, "Returns the weight whose height would be 0 first: now, or behind the fewest (whole)"
                + " minutes, at most 1500; of several the lowest number; NONE if there is none.");
        RemontoirClock clock = Twins.made(EdgesOfWouldBe::chimesUntil2760);
        Check.same("2760", clock.downFirst(), NONE);
        Bring.minuteNumberTo(clock, 2760 - 1501);
        Check.same("1501", clock.downFirst(), NONE);
        clock.pass(1);
        Check.same("1500", clock.downFirst(), 2);
        clock.pass(1);
        Check.same("1499", clock.downFirst(), 2);
        Bring.minuteNumberTo(clock, 2759);
        Check.same("not down yet", clock.weight(2, 0), 8);
        clock.pass(1);
        Check.same("down", clock.weight(2, 0), 0);
        Check.same("now", clock.downFirst(), 2);
        clock.hire(2, 200, 1);
        Check.same("now, though he comes", clock.downFirst(), 2);
        clock.wind(2, 200);
        Check.same("not any more", clock.downFirst(), NONE);
    }

    private static void downFirstOfSeveral() {
        for (int i = 0; i < 8; i++) {
            int down = i;
            RemontoirClock clock = Twins.made(one -> downAre(one, down % 2 == 1, down / 2 % 2 == 1, down / 4 == 1));
            int due = down == 0 ? 0 : down % 2 == 1 ? 0 : down / 2 % 2 == 1 ? 1 : 2;
            Check.same("down now " + i, clock.downFirst(), due);
        }
        RemontoirClock both = Twins.made(one -> striking4Chiming8(one, 4, 8));
        Check.same("both at 4 o'clock", both.downFirst(), 1);
        Check.same("striking at 4, chiming has more", Twins.made(one -> striking4Chiming8(one, 4, 9)).downFirst(), 1);
        Check.same("chiming at 4, striking has more", Twins.made(one -> striking4Chiming8(one, 5, 8)).downFirst(), 2);
        RemontoirClock all = Twins.made(one -> striking4Chiming8(one, 4, 8));
        Bring.goingTo(all, 1);
        Bring.chargeTo(all, 2);
        all.setHands(239);
        Check.same("all three at 4 o'clock", all.downFirst(), 0);
        Bring.goingTo(all, 1);
        Bring.chargeTo(all, 3);
        all.setHands(239);
        Check.same("the going weight a minute later", all.downFirst(), 1);
    }

    private static void downAre(RemontoirClock clock, boolean going, boolean striking, boolean chiming) {
        Bring.strikingTo(clock, striking ? 0 : 200);
        Bring.chimingTo(clock, chiming ? 0 : 200);
        if (going) {
            Bring.goingTo(clock, 0);
        }
    }

    private static void striking4Chiming8(RemontoirClock clock, int striking, int chiming) {
        Bring.strikingTo(clock, striking);
        Bring.chimingTo(clock, chiming);
        clock.setHands(239);
    }

    private static void lostShare() {
        String promise = "Promise 27";
        Sentences.noEdge(promise, "Tells how much the hands lost.");
        Sentences.about(promise, "Returns the sum of slips and of minutes in which the clock stood, as a double, divided"
                + " by the number of the minute; 0.0 if that is 0.");
        RemontoirClock clock = new RemontoirClock();
        Check.sameDouble("minute 0", clock.lostShare(), 0.0);
        clock.setSnow(20);
        clock.pass(1);
        Check.sameDouble("1 of 1", clock.lostShare(), 1.0);
        clock.undo();
        Check.sameDouble("minute 0 again", clock.lostShare(), 0.0);
        clock.setSnow(0);
        clock.pass(1);
        Check.sameDouble("0 of 1", clock.lostShare(), 0.0);
        clock.setSnow(20);
        clock.pass(1);
        Check.sameDouble("1 of 2", clock.lostShare(), 0.5);
        clock.setSnow(0);
        clock.pass(1);
        Check.sameDouble("1 of 3", clock.lostShare(), 1.0 / 3.0);
        RemontoirClock stands = Twins.made(one -> Bring.minuteNumberTo(one, 211));
        Check.sameDouble("the first minute in which it stood", stands.lostShare(), 1.0 / 211.0);
        RemontoirClock slips = Twins.made(one -> one.setSnow(20));
        Bring.minuteNumberTo(slips, 20000);
        Check.sameDouble("all of 20000, slips and stands", slips.lostShare(), 1.0);
        RemontoirClock least = Twins.made(one -> one.hire(0, 10, 10));
        Bring.minuteNumberTo(least, 19999);
        Check.sameDouble("none of 19999", least.lostShare(), 0.0);
        least.setSnow(20);
        least.pass(1);
        Check.sameDouble("1 of 20000", least.lostShare(), 1.0 / 20000.0);
        Check.same("its bits", least.digest(), Digests.of(least, ""));
    }

    private static void digestOfEdges() {
        String promise = "Promise 28";
        Sentences.noEdge(promise, "Computes a hash of the whole state.");
        Sentences.noEdge(promise, "Returns the hash.");
        Sentences.about(promise, "The hash starts at 2311. For each value v of the following list, in order, the hash"
                + " becomes 31 * hash + v, in long arithmetic with overflow.");
        Check.same("new", new RemontoirClock().digest(), Digests.inBigNumbers(new RemontoirClock(), ""));
        RemontoirClock busy = Twins.made(Twins.BUSY);
        Check.same("busy", busy.digest(), Digests.inBigNumbers(busy, "s3/40,c"));
        Sentences.about(promise, "The values are: count(0) to count(17); the settings 0 to 5; for each weight its"
                + " properties 0 to 2; for each winder his properties 0 to 5; for each debt its properties 0 and 1; why"
                + " with 0 to 2; ifPassed with 60 minutes for 0 to 9; standsIn, paidIn, leastTurns with 240 minutes,"
                + " downFirst; the bits of lostShare (as Double.doubleToLongBits); the length of the buffer and each of"
                + " its character codes.");
        for (int winders : new int[] {0, 1, 5, 6}) {
            for (int debts : new int[] {0, 1, 3, 4}) {
                for (int signs : new int[] {0, 1, 59, 60}) {
                    digestWith(winders, debts, signs);
                }
            }
        }
        digestOfNone();
        digestOfMinutes();
    }

    /** Clocks on which each number of minutes but 60 and 240 would give another value. */
    private static void digestOfMinutes() {
        RemontoirClock hour = Twins.made(one -> one.setHands(17));
        Check.isTrue("59", hour.ifPassed(59, 3) != hour.ifPassed(60, 3));
        Check.isTrue("61", hour.ifPassed(61, 3) != hour.ifPassed(60, 3));
        Check.same("60 minutes", hour.digest(), Digests.of(hour, ""));
        RemontoirClock turns = Twins.made(one -> emptyWith(one, 0));
        turns.hire(0, 60, 150);
        Check.same("239", turns.leastTurns(239), 239 - 60);
        Check.same("240", turns.leastTurns(240), 240 - 60);
        Check.same("241", turns.leastTurns(241), 241 - 60);
        Check.same("240 minutes", turns.digest(), Digests.of(turns, ""));
    }

    private static void digestWith(int winders, int debts, int signs) {
        RemontoirClock clock = Twins.made(one -> Bring.debtsOf(one, hours(debts)));
        for (int i = 0; i < winders; i++) {
            clock.hire(i % 3, 1 + i, 100 + i);
        }
        String text = "!~g1/".repeat(12).substring(0, signs);
        Check.type(clock, text);
        Check.same(winders + " winders, " + debts + " debts, " + signs + " signs", clock.digest(),
                Digests.of(clock, text));
    }

    private static int[] hours(int number) {
        int[] hours = new int[number];
        for (int i = 0; i < number; i++) {
            hours[i] = 12 - i;
        }
        return hours;
    }

    /** NONE is a value too, and the shares from 0 to 1 have bits. */
    private static void digestOfNone() {
        RemontoirClock clock = Twins.made(one -> Bring.debtsOf(one, 1));
        clock.wind(0, 200);
        clock.hire(0, 1, 1);
        clock.setSnow(20);
        Check.same("never stands", clock.standsIn(), NONE);
        Check.same("never paid", clock.paidIn(), NONE);
        Check.same("digest with NONE", clock.digest(), Digests.of(clock, ""));
        for (int slips = 0; slips <= 8; slips++) {
            for (int minutes = Math.max(1, slips); minutes <= 16; minutes++) {
                RemontoirClock share = new RemontoirClock();
                share.set(2, 20);
                for (int i = 0; i < minutes; i++) {
                    share.set(2, i < slips ? 1 : 20);
                    share.setSnow(i < slips ? 20 : 0);
                    share.pass(1);
                }
                Check.same("slips", share.count(11), slips);
                Check.same(slips + " of " + minutes, share.digest(), Digests.of(share, ""));
            }
        }
    }
}
