import java.util.Objects;

/**
 * Two clocks that are made by the same calls; then they are called differently, and must be the same
 * all the same: now, in the minutes behind, and in each state that undo gives back. The digest alone
 * would not see what is in the saved states, nor since when a winder is due.
 */
final class Twins {
    interface Calls {
        void on(RemontoirClock clock);
    }

    static final Calls NEW = clock -> { };
    static final Calls BUSY = Twins::makeBusy;
    static final Calls BUSY_WITH_ROOM = clock -> {
        makeBusy(clock);
        clock.undo();
    };
    private static final int MINUTES_BEHIND = 12;

    private Twins() {
    }

    static RemontoirClock made(Calls making) {
        RemontoirClock clock = new RemontoirClock();
        making.on(clock);
        return clock;
    }

    /** Behind this six states are saved, there are debts, winders one of whom waits, wear, and a text. */
    private static void makeBusy(RemontoirClock clock) {
        clock.set(3, 1);
        clock.setSnow(20);
        clock.pass(6);
        clock.setSnow(3);
        clock.hire(1, 5, 2);
        clock.hire(1, 6, 3);
        clock.hire(0, 20, 7);
        clock.hire(2, 3, 9);
        clock.setHands(718);
        clock.pass(2);
        clock.setHands(59);
        clock.pass(3);
        Check.type(clock, "s3/40,c");
    }

    static void busyIsBusy() {
        RemontoirClock clock = made(BUSY);
        Check.same("busy: states", clock.count(17), 6);
        Check.same("busy: debts", clock.count(5), 2);
        Check.same("busy: winders", clock.count(14), 4);
        Check.same("busy: the first one waits", clock.winder(0, 5), 1);
        Check.same("busy: the second one waits", clock.winder(1, 5), 1);
        Check.same("busy: wear", clock.count(4), 1);
        Check.same("busy, with room: states", made(BUSY_WITH_ROOM).count(17), 5);
    }

    private static Class<?> thrownBy(RemontoirClock clock, Calls calls) {
        try {
            calls.on(clock);
            return null;
        } catch (RuntimeException e) {
            return e.getClass();
        }
    }

    /** The call throws this very class and changes nothing, on a new clock and on a busy one. */
    static void refuse(String call, Class<? extends RuntimeException> due, Calls refused) {
        refuse(call + ", new", due, NEW, refused);
        refuse(call + ", busy", due, BUSY, refused);
    }

    static void refuse(String call, Class<? extends RuntimeException> due, Calls making, Calls refused) {
        Class<?> got = thrownBy(made(making), refused);
        Check.isTrue(call + " throws " + got + ", due is " + due, Objects.equals(got, due));
        areSame(call, making, clock -> thrownBy(clock, refused), NEW);
    }

    /** The call answers, and changes nothing, on a new clock and on a busy one. */
    static void changeNothing(String call, Calls asked) {
        areSame(call + ", new", NEW, asked, NEW);
        areSame(call + ", busy", BUSY, asked, NEW);
    }

    /** The call saves one state, the one from before it; of six the oldest one is dropped for it. */
    static void isUndoable(String call, Calls calls) {
        isUndoable(call + ", new", NEW, calls);
        isUndoable(call + ", busy", BUSY_WITH_ROOM, calls);
        RemontoirClock full = made(BUSY);
        calls.on(full);
        Check.same(call + " with six states", full.count(17), 6);
        areSame(call + " with six states, undone", BUSY, clock -> undone(clock, calls), Twins::dropOldest);
    }

    static void isUndoable(String call, Calls making, Calls calls) {
        RemontoirClock clock = made(making);
        int before = clock.count(17);
        calls.on(clock);
        Check.same(call + " saves one state", clock.count(17), before + 1);
        areSame(call + ", undone", making, one -> undone(one, calls), NEW);
    }

    private static void undone(RemontoirClock clock, Calls calls) {
        calls.on(clock);
        clock.undo();
    }

    /** A change and its undo leave all but the oldest of six states. */
    private static void dropOldest(RemontoirClock clock) {
        clock.setSnow(19);
        clock.undo();
    }

    static void areSame(String call, Calls making, Calls one, Calls other) {
        aheadAreSame(call, both(making, one), both(making, other));
        backAreSame(call, both(making, one), both(making, other));
    }

    private static RemontoirClock both(Calls making, Calls then) {
        RemontoirClock clock = made(making);
        then.on(clock);
        return clock;
    }

    private static void aheadAreSame(String call, RemontoirClock clock, RemontoirClock twin) {
        Check.same(call + ": digest", clock.digest(), twin.digest());
        boolean hasTime = twin.count(0) + MINUTES_BEHIND <= 20000;
        for (int i = 1; i <= MINUTES_BEHIND && hasTime; i++) {
            clock.pass(1);
            twin.pass(1);
            Check.same(call + ": digest, " + i + " minutes behind", clock.digest(), twin.digest());
        }
    }

    private static void backAreSame(String call, RemontoirClock clock, RemontoirClock twin) {
        int saved = twin.count(17);
        Check.same(call + ": saved states", clock.count(17), saved);
        for (int i = 1; i <= saved && clock.count(17) > 0; i++) {
            clock.undo();
            twin.undo();
            Check.same(call + ": digest, " + i + " states back", clock.digest(), twin.digest());
        }
    }
}
