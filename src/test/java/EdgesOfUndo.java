/** The edges of "Undo", promise 15, and "Exceptions". */
final class EdgesOfUndo {
    private EdgesOfUndo() {
    }

    static void run() {
        undoableMethods();
        theBufferIsNotSaved();
        sixStates();
        undo();
        undoOfNothing();
        throwingChangesNothing();
        theFirstExceptionIsThrown();
        noneIsMinus1();
        callsUpTo512();
        whatIsAskedChangesNothing();
    }

    private static void undoableMethods() {
        Sentences.about("Undo", "Each method that is marked \"undoable\" and does not throw an exception saves the state"
                + " from before it (also if it changes nothing):");
        Twins.isUndoable("wind", one -> one.wind(1, 1));
        Twins.isUndoable("set", one -> one.set(0, 3));
        Twins.isUndoable("set to the same", one -> one.set(5, 6));
        Twins.isUndoable("setSnow", one -> one.setSnow(20));
        Twins.isUndoable("setHands", one -> one.setHands(719));
        Twins.isUndoable("mend", one -> one.mend());
        Twins.isUndoable("forgive", one -> one.forgive());
        Twins.isUndoable("hire", one -> one.hire(0, 1, 1));
        Twins.isUndoable("pass", one -> one.pass(1));
        Twins.isUndoable("dismiss", Twins.BUSY_WITH_ROOM, one -> one.dismiss(0));
        Twins.isUndoable("wind a full weight", Twins.NEW, one -> one.wind(0, 200));
        Twins.isUndoable("the same snow", Twins.NEW, one -> one.setSnow(0));
        Twins.isUndoable("the same time", Twins.NEW, one -> one.setHands(0));
        Twins.isUndoable("mend what has no wear", Twins.NEW, one -> one.mend());
        Twins.isUndoable("forgive nothing", Twins.NEW, one -> one.forgive());
        RemontoirClock clock = Twins.made(one -> one.hire(0, 5, 5));
        Check.type(clock, "g5/5");
        clock.load();
        Check.same("load of the same rounds", clock.count(17), 2);
        savesNothing();
    }

    private static void savesNothing() {
        RemontoirClock clock = new RemontoirClock();
        Check.type(clock, "g1");
        clock.firstError();
        clock.clearBuffer();
        clock.digest();
        Check.same("who is not marked saves nothing", clock.count(17), 0);
        clock.setSnow(1);
        clock.setSnow(2);
        clock.undo();
        Check.same("nor does undo", clock.count(17), 1);
    }

    private static void theBufferIsNotSaved() {
        Sentences.about("Undo", "all but the buffer and the saved states.");
        RemontoirClock clock = new RemontoirClock();
        Check.type(clock, "g1/1");
        clock.setSnow(1);
        Check.type(clock, ",");
        clock.setSnow(2);
        clock.clearBuffer();
        Check.type(clock, "s2/2");
        clock.undo();
        clock.undo();
        Check.same("the buffer is what it was", clock.digest(), Digests.of(clock, "s2/2"));
        clock.load();
        clock.undo();
        Check.same("undo of load gives it not back", clock.clearBuffer(), 0);
        for (int length : new int[] {0, 1, 59, 60}) {
            RemontoirClock typed = new RemontoirClock();
            typed.setSnow(1);
            Check.type(typed, "x".repeat(length));
            typed.undo();
            Check.same("the buffer of " + length, typed.digest(), Digests.of(typed, "x".repeat(length)));
        }
        RemontoirClock twice = new RemontoirClock();
        twice.setSnow(1);
        twice.setSnow(2);
        twice.undo();
        twice.setHands(5);
        twice.undo();
        twice.undo();
        Check.same("the saved states are not given back", twice.count(17), 0);
        Check.same("all is undone", twice.count(3), 0);
    }

    private static void snows(RemontoirClock clock, int number) {
        for (int snow = 1; snow <= number; snow++) {
            clock.setSnow(snow);
        }
    }

    private static void sixStates() {
        Sentences.about("Undo", "At most 6 states are saved; the oldest one is dropped first.");
        for (int number : new int[] {5, 6, 7, 8, 12, 13, 20}) {
            RemontoirClock clock = Twins.made(one -> snows(one, number));
            int saved = Math.min(6, number);
            Check.same(number + ": saved", clock.count(17), saved);
            for (int i = 1; i <= saved; i++) {
                Check.same(number + ": left", clock.undo(), saved - i);
                Check.same(number + ": snow", clock.count(3), number - i);
            }
            Check.isTrue("no seventh", isRefused(clock));
        }
        RemontoirClock again = Twins.made(one -> snows(one, 8));
        again.undo();
        again.undo();
        snows(again, 3);
        for (int due : new int[] {2, 1, 6, 5, 4, 3}) {
            again.undo();
            Check.same("dropped and saved again", again.count(3), due);
        }
        Check.same("none is left", again.count(17), 0);
    }

    private static boolean isRefused(RemontoirClock clock) {
        try {
            clock.undo();
            return false;
        } catch (IllegalStateException e) {
            return true;
        }
    }

    private static void undo() {
        String promise = "Promise 15";
        Sentences.about(promise, "Restores the latest saved state, and drops it.");
        RemontoirClock clock = Twins.made(one -> snows(one, 3));
        clock.undo();
        Check.same("the latest one", clock.count(3), 2);
        clock.undo();
        Check.same("it was dropped: then the one before it", clock.count(3), 1);
        Sentences.about(promise, "Returns how many saved states are left.");
        Check.same("of one", clock.undo(), 0);
        Check.same("of six", Twins.made(one -> snows(one, 6)).undo(), 5);
        Check.same("of seven, of which six are kept", Twins.made(one -> snows(one, 7)).undo(), 5);
    }

    private static void undoOfNothing() {
        Sentences.about("Promise 15", "Throws `IllegalStateException` if there is none");
        Twins.refuse("new", Check.NO_STATE, Twins.NEW, RemontoirClock::undo);
        Twins.refuse("behind the last one", Check.NO_STATE, one -> {
            one.hire(0, 1, 1);
            one.undo();
        }, RemontoirClock::undo);
        Twins.refuse("behind six", Check.NO_STATE, one -> {
            snows(one, 9);
            for (int i = 0; i < 6; i++) {
                one.undo();
            }
        }, RemontoirClock::undo);
        Twins.refuse("a text is no state", Check.NO_STATE, one -> Check.type(one, "g1/1"), RemontoirClock::undo);
        Check.same("one is enough", Twins.made(one -> one.mend()).undo(), 0);
    }

    /** Each promise's refused calls are held against this too: Twins.refuse does it. */
    private static void throwingChangesNothing() {
        Sentences.about("Exceptions", "A call that throws an exception changes nothing.");
        Twins.refuse("wind", Check.NO_ARGUMENT, one -> one.wind(0, 201));
        Twins.refuse("set", Check.NO_ARGUMENT, one -> one.set(0, 1));
        Twins.refuse("setSnow", Check.NO_ARGUMENT, one -> one.setSnow(21));
        Twins.refuse("setHands", Check.NO_ARGUMENT, one -> one.setHands(720));
        Twins.refuse("hire", Check.NO_ARGUMENT, one -> one.hire(0, 1, 721));
        Twins.refuse("dismiss", Check.NO_INDEX, one -> one.dismiss(4));
        Twins.refuse("pass", Check.NO_ARGUMENT, one -> one.pass(721));
        Twins.refuse("append", Check.NO_ARGUMENT, one -> one.append(127));
        Twins.refuse("load", Check.NO_ARGUMENT, RemontoirClock::load);
    }

    private static void sixWinders(RemontoirClock clock) {
        for (int i = 0; i < 6; i++) {
            clock.hire(0, 1, 1);
        }
    }

    private static void theFirstExceptionIsThrown() {
        Sentences.about("Exceptions", "If several exceptions apply, the one that is named first in the throws clause is"
                + " thrown.");
        Twins.refuse("wind(3, 201)", Check.NO_INDEX, one -> one.wind(3, 201));
        Twins.refuse("set(6, 99)", Check.NO_INDEX, one -> one.set(6, 99));
        Twins.refuse("set(-1, -1)", Check.NO_INDEX, one -> one.set(-1, -1));
        Twins.refuse("hire(3, 0, 0)", Check.NO_INDEX, one -> one.hire(3, 0, 0));
        Twins.refuse("hire(-1, 1, 721)", Check.NO_INDEX, one -> one.hire(-1, 1, 721));
        Twins.refuse("hire(3, 1, 1) of six", Check.NO_INDEX, EdgesOfUndo::sixWinders, one -> one.hire(3, 1, 1));
        Twins.refuse("hire(3, 0, 0) of six", Check.NO_INDEX, EdgesOfUndo::sixWinders, one -> one.hire(3, 0, 0));
        Twins.refuse("hire(0, 0, 1) of six", Check.NO_ARGUMENT, EdgesOfUndo::sixWinders, one -> one.hire(0, 0, 1));
        Twins.refuse("hire(0, 1, 721) of six", Check.NO_ARGUMENT, EdgesOfUndo::sixWinders, one -> one.hire(0, 1, 721));
        Twins.Calls atTheEnd = one -> Bring.minuteNumberTo(one, 20000);
        Twins.refuse("pass(0) at 20000", Check.NO_ARGUMENT, atTheEnd, one -> one.pass(0));
        Twins.refuse("pass(721) at 20000", Check.NO_ARGUMENT, atTheEnd, one -> one.pass(721));
        Twins.refuse("pass(max) at 20000", Check.NO_ARGUMENT, atTheEnd, one -> one.pass(Integer.MAX_VALUE));
        Twins.Calls full = one -> Check.type(one, "x".repeat(60));
        Twins.refuse("append(32) to 60", Check.NO_ARGUMENT, full, one -> one.append(32));
        Twins.refuse("append(127) to 60", Check.NO_ARGUMENT, full, one -> one.append(127));
        Twins.refuse("load of seven rounds and a comma", Check.NO_ARGUMENT,
                one -> Check.type(one, "g1/1,g1/1,g1/1,g1/1,g1/1,g1/1,g1/1,"), RemontoirClock::load);
        Twins.refuse("load of seven rounds, one wrong", Check.NO_ARGUMENT,
                one -> Check.type(one, "g1/1,g1/1,g1/1,g0/1,g1/1,g1/1,g1/1"), RemontoirClock::load);
        Twins.refuse("weight(3, 3)", Check.NO_INDEX, one -> one.weight(3, 3));
        Twins.refuse("weight(-1, -1)", Check.NO_INDEX, one -> one.weight(-1, -1));
        Twins.refuse("winder(6, 6)", Check.NO_INDEX, one -> one.winder(6, 6));
        Twins.refuse("winder(-1, -1)", Check.NO_INDEX, one -> one.winder(-1, -1));
        Twins.refuse("debt(4, 2)", Check.NO_INDEX, one -> one.debt(4, 2));
        Twins.refuse("debt(-1, -1)", Check.NO_INDEX, one -> one.debt(-1, -1));
    }

    private static void noneIsMinus1() {
        Sentences.about("Exceptions", "The constants: `NONE = -1`: There is nothing to return.");
        Check.same("NONE", RemontoirClock.NONE, -1);
        RemontoirClock clock = Twins.made(one -> one.hire(0, 1, 1));
        Check.same("standsIn", clock.standsIn(), RemontoirClock.NONE);
        Sentences.noEdge("Exceptions",
                "Ahead of the calls `wind`, `set`, `setSnow`, `setHands`, `mend`, `forgive` the interface says: ----"
                + " by hand.");
        Sentences.noEdge("Exceptions", "Ahead of the calls `hire`, `dismiss`, `pass` the interface says: ---- winders.");
        Sentences.noEdge("Exceptions", "Ahead of the calls `append`, `clearBuffer`, `firstError`, `load`, `undo` the"
                + " interface says: ---- texts.");
        Sentences.noEdge("Exceptions", "Ahead of the calls `weight`, `winder`, `debt`, `count`, `setting` the interface"
                + " says: ---- what there is.");
    }

    /** "An object is used for at most 512 calls after it has been made": the last one answers as the first. */
    private static void callsUpTo512() {
        Check.about("What it is: 512 calls");
        RemontoirClock clock = new RemontoirClock();
        for (int call = 1; call <= 511; call++) {
            Check.same("call " + call, clock.setSnow(call % 21), (call - 1) % 21);
        }
        Check.same("call 512", clock.undo(), 5);
        RemontoirClock passing = new RemontoirClock();
        for (int call = 1; call <= 511; call++) {
            passing.pass(39);
        }
        Check.same("call 512, minutes", passing.count(0), 511 * 39);
        RemontoirClock asked = new RemontoirClock();
        for (int call = 1; call <= 512; call++) {
            Check.same("digest " + call, asked.digest(), new RemontoirClock().digest());
        }
    }

    private static void whatIsAskedChangesNothing() {
        Sentences.about("Exceptions", "Ahead of the calls `why`, `ifPassed`, `standsIn`, `paidIn`, `leastTurns`,"
                + " `downFirst`, `lostShare`, `digest` the interface says: ---- what would be; nothing is changed, and"
                + " the limit of 20000 minutes does not matter.");
        for (int what = 0; what <= 9; what++) {
            int asked = what;
            Twins.changeNothing("why", one -> one.why(asked % 3));
            Twins.changeNothing("ifPassed", one -> one.ifPassed(720, asked));
        }
        Twins.changeNothing("standsIn", RemontoirClock::standsIn);
        Twins.changeNothing("paidIn", RemontoirClock::paidIn);
        Twins.changeNothing("leastTurns", one -> one.leastTurns(720));
        Twins.changeNothing("downFirst", RemontoirClock::downFirst);
        Twins.changeNothing("lostShare", RemontoirClock::lostShare);
        Twins.changeNothing("digest", RemontoirClock::digest);
        for (int number : new int[] {19999, 20000}) {
            theLimitDoesNotMatter(number);
        }
    }

    private static void theLimitDoesNotMatter(int number) {
        RemontoirClock clock = new RemontoirClock();
        Bring.minuteNumberTo(clock, number);
        Check.same("it stands", clock.why(0), 1);
        clock.wind(0, 200);
        clock.setHands(719);
        Check.same("why 0", clock.why(0), 0);
        Check.same("why 1", clock.why(1), 0);
        Check.same("why 2", clock.why(2), 1);
        Check.same("ifPassed: time", clock.ifPassed(200, 3), 199);
        Check.same("ifPassed: stood", clock.ifPassed(720, 9), clock.count(12) + 520);
        Check.same("standsIn", clock.standsIn(), 200);
        Check.same("leastTurns", clock.leastTurns(200), 0);
        Check.same("leastTurns", clock.leastTurns(201), RemontoirClock.NONE);
        Check.same("downFirst", clock.downFirst(), 0);
        Check.same("paidIn", clock.paidIn(), 0);
        double lost = clock.count(0) - 210;
        Check.sameDouble("lostShare", clock.lostShare(), lost / number);
        Check.same("digest", clock.digest(), Digests.of(clock, ""));
    }
}
