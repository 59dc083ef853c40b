/** Promises 8 and 9: winders are hired and dismissed. */
public final class WindersTest {
    public static void main(String[] args) {
        hire();
        hireRefuses();
        dismiss();
        dismissRefuses();
        Check.end();
    }

    private static void hire() {
        RemontoirClock clock = new RemontoirClock();
        clock.pass(7);
        for (int i = 0; i < 6; i++) {
            Check.same("hire", clock.hire(i % 3, 1 + 39 * i, 720 - 3 * i), i);
            Check.same("winders", clock.count(14), i + 1);
        }
        Check.same("his weight", clock.winder(4, 0), 1);
        Check.same("his turns", clock.winder(4, 1), 157);
        Check.same("his period", clock.winder(4, 2), 708);
        Check.same("he is due behind a period from now", clock.winder(4, 3), 708);
        Check.same("he has not come", clock.winder(4, 4), 0);
        clock.undo();
        Check.same("undone", clock.count(14), 5);
        Check.same("hire(2, 200, 1)", clock.hire(2, 200, 1), 5);
        clock.pass(1);
        Check.same("not in the minute of the hiring", clock.winder(5, 4), 0);
        clock.pass(1);
        Check.same("in the one behind it", clock.winder(5, 4), 1);
    }

    private static void hireRefuses() {
        RemontoirClock clock = new RemontoirClock();
        refusals(clock);
        for (int i = 0; i < 6; i++) {
            clock.hire(0, 1, 1);
        }
        refusals(clock);
        Check.refuses("a seventh", clock, Check.NO_STATE, () -> clock.hire(0, 1, 1));
    }

    private static void refusals(RemontoirClock clock) {
        Check.refuses("hire(-1, 1, 1)", clock, Check.NO_INDEX, () -> clock.hire(-1, 1, 1));
        Check.refuses("hire(3, 0, 0)", clock, Check.NO_INDEX, () -> clock.hire(3, 0, 0));
        Check.refuses("hire(0, 0, 1)", clock, Check.NO_ARGUMENT, () -> clock.hire(0, 0, 1));
        Check.refuses("hire(0, 201, 1)", clock, Check.NO_ARGUMENT, () -> clock.hire(0, 201, 1));
        Check.refuses("hire(0, 1, 0)", clock, Check.NO_ARGUMENT, () -> clock.hire(0, 1, 0));
        Check.refuses("hire(0, 1, 721)", clock, Check.NO_ARGUMENT, () -> clock.hire(0, 1, 721));
    }

    private static void dismiss() {
        RemontoirClock clock = new RemontoirClock();
        clock.hire(0, 11, 100);
        clock.hire(1, 12, 3);
        clock.hire(2, 13, 5);
        clock.pass(6);
        Check.same("came", clock.winder(2, 4), 1);
        Check.same("dismiss(0)", clock.dismiss(0), 2);
        Check.same("winders", clock.count(14), 2);
        int[] second = {2, 13, 5, 4, 1, 0};
        for (int what = 0; what < 6; what++) {
            Check.same("he who was 2, " + what, clock.winder(1, what), second[what]);
        }
        Check.same("he who was 1", clock.winder(0, 1), 12);
        Check.same("dismiss the last one", clock.dismiss(1), 1);
        Check.same("he who was 1 is still 0", clock.winder(0, 1), 12);
        Check.same("a new one comes behind", clock.hire(2, 1, 1), 1);
        Check.same("and is new", clock.winder(1, 4), 0);
        clock.dismiss(1);
        Check.same("the only one", clock.dismiss(0), 0);
        Check.same("saved", clock.count(17), 6);
        clock.undo();
        Check.same("undone", clock.winder(0, 1), 12);
        Check.same("with his coming", clock.winder(0, 4), 1);
    }

    private static void dismissRefuses() {
        RemontoirClock clock = new RemontoirClock();
        Check.refuses("dismiss(0)", clock, Check.NO_INDEX, () -> clock.dismiss(0));
        clock.hire(0, 1, 1);
        Check.refuses("dismiss(1)", clock, Check.NO_INDEX, () -> clock.dismiss(1));
        Check.refuses("dismiss(-1)", clock, Check.NO_INDEX, () -> clock.dismiss(-1));
        Check.refuses("dismiss(max)", clock, Check.NO_INDEX, () -> clock.dismiss(Integer.MAX_VALUE));
    }
}
