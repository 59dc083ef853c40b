/** Promises 16 to 20: what there is. */
public final class WhatThereIsTest {
    public static void main(String[] args) {
        weight();
        winder();
        winderKeptOut();
        debt();
        count();
        handsBehind();
        setting();
        refusals();
        Check.end();
    }

    private static void weight() {
        RemontoirClock clock = new RemontoirClock();
        clock.hire(0, 30, 45);
        clock.pass(60);
        clock.wind(0, 5);
        int[][] due = {{200 - 56 + 30 + 5, 56, 35}, {199, 1, 0}, {180, 20, 0}};
        for (int i = 0; i < 3; i++) {
            for (int what = 0; what < 3; what++) {
                Check.same("weight(" + i + ", " + what + ")", clock.weight(i, what), due[i][what]);
            }
        }
        clock.undo();
        Check.same("undone", clock.weight(0, 2), 30);
    }

    private static void winder() {
        RemontoirClock clock = new RemontoirClock();
        clock.hire(2, 17, 25);
        Check.same("due in", clock.winder(0, 3), 25);
        clock.pass(24);
        Check.same("one minute passes until then", clock.winder(0, 3), 1);
        clock.pass(1);
        Check.same("due in the next one", clock.winder(0, 3), 0);
        Check.same("a chiming winder is never kept out", clock.winder(0, 5), 0);
        clock.pass(1);
        Check.same("came", clock.winder(0, 4), 1);
        Check.same("due again", clock.winder(0, 3), 24);
        Check.same("weight", clock.winder(0, 0), 2);
        Check.same("turns", clock.winder(0, 1), 17);
        Check.same("period", clock.winder(0, 2), 25);
    }

    private static void winderKeptOut() {
        RemontoirClock clock = new RemontoirClock();
        clock.set(3, 1);
        clock.hire(1, 1, 3);
        clock.hire(0, 1, 2);
        clock.setHands(718);
        clock.pass(2);
        Check.same("a debt, but he is not due", clock.winder(0, 5), 0);
        Check.same("due in one", clock.winder(0, 3), 1);
        clock.pass(1);
        Check.same("due and kept out", clock.winder(0, 5), 1);
        Check.same("still due in the next one", clock.winder(0, 3), 0);
        clock.pass(3);
        Check.same("he waits on", clock.winder(0, 3), 0);
        clock.forgive();
        Check.same("no debt, not kept out", clock.winder(0, 5), 0);
        Check.same("the going winder is not kept out", clock.winder(1, 5), 0);
        clock.undo();
        Check.same("kept out again", clock.winder(0, 5), 1);
    }

    private static void debt() {
        RemontoirClock clock = new RemontoirClock();
        Check.refuses("debt(0, 0)", clock, Check.NO_INDEX, () -> clock.debt(0, 0));
        clock.set(3, 3);
        clock.setHands(299);
        clock.pass(1);
        Check.same("hour", clock.debt(0, 0), 5);
        Check.same("left", clock.debt(0, 1), 2);
        Check.refuses("debt(1, 0)", clock, Check.NO_INDEX, () -> clock.debt(1, 0));
        Check.refuses("debt(-1, 0)", clock, Check.NO_INDEX, () -> clock.debt(-1, 0));
        Check.refuses("debt(1, 2)", clock, Check.NO_INDEX, () -> clock.debt(1, 2));
        Check.refuses("debt(0, 2)", clock, Check.NO_ARGUMENT, () -> clock.debt(0, 2));
        Check.refuses("debt(0, -1)", clock, Check.NO_ARGUMENT, () -> clock.debt(0, -1));
    }

    private static void count() {
        RemontoirClock clock = new RemontoirClock();
        clock.set(3, 1);
        clock.setSnow(11);
        clock.pass(5);
        clock.setSnow(7);
        clock.set(0, 12);
        clock.setHands(649);
        clock.pass(12);
        int[] due = {17, 661, 3, 7, 1, 1, 9, 2, 0, 4, 0, 5, 0, 1, 0, 76, 0, 6};
        for (int what = 0; what < due.length; what++) {
            Check.same("count(" + what + ")", clock.count(what), due[what]);
        }
        clock.forgive();
        clock.set(4, 11);
        clock.hire(1, 1, 1);
        Check.same("forgiven", clock.count(8), 9);
        Check.same("silent", clock.count(16), 1);
        Check.same("winders", clock.count(14), 1);
    }

    private static void handsBehind() {
        RemontoirClock clock = new RemontoirClock();
        clock.setHands(1);
        Check.same("hands ahead by one", clock.count(15), 719);
        clock.setHands(719);
        Check.same("hands ahead by 719", clock.count(15), 1);
        clock.pass(1);
        Check.same("still", clock.count(15), 1);
        clock.setHands(0);
        clock.pass(720);
        Check.same("stood", clock.count(12), 511);
        Check.same("behind", clock.count(15), (721 - 209) % 720);
    }

    private static void setting() {
        RemontoirClock clock = new RemontoirClock();
        int[] values = {30, 20, 1, 12, 12, 1};
        for (int i = 0; i < 6; i++) {
            clock.set(i, values[i]);
        }
        for (int i = 0; i < 6; i++) {
            Check.same("setting(" + i + ")", clock.setting(i), values[i]);
        }
        clock.undo();
        Check.same("undone", clock.setting(5), 6);
    }

    private static void refusals() {
        RemontoirClock clock = new RemontoirClock();
        clock.hire(0, 1, 1);
        Check.refuses("weight(3, 0)", clock, Check.NO_INDEX, () -> clock.weight(3, 0));
        Check.refuses("weight(-1, 9)", clock, Check.NO_INDEX, () -> clock.weight(-1, 9));
        Check.refuses("weight(0, 3)", clock, Check.NO_ARGUMENT, () -> clock.weight(0, 3));
        Check.refuses("weight(2, -1)", clock, Check.NO_ARGUMENT, () -> clock.weight(2, -1));
        Check.refuses("winder(1, 0)", clock, Check.NO_INDEX, () -> clock.winder(1, 0));
        Check.refuses("winder(-1, 0)", clock, Check.NO_INDEX, () -> clock.winder(-1, 0));
        Check.refuses("winder(1, 6)", clock, Check.NO_INDEX, () -> clock.winder(1, 6));
        Check.refuses("winder(0, 6)", clock, Check.NO_ARGUMENT, () -> clock.winder(0, 6));
        Check.refuses("winder(0, -1)", clock, Check.NO_ARGUMENT, () -> clock.winder(0, -1));
        Check.refuses("count(-1)", clock, Check.NO_ARGUMENT, () -> clock.count(-1));
        Check.refuses("count(18)", clock, Check.NO_ARGUMENT, () -> clock.count(18));
        Check.refuses("setting(-1)", clock, Check.NO_INDEX, () -> clock.setting(-1));
        Check.refuses("setting(6)", clock, Check.NO_INDEX, () -> clock.setting(6));
        Check.refuses("setting(max)", clock, Check.NO_INDEX, () -> clock.setting(Integer.MAX_VALUE));
    }
}
