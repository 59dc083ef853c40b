/** Promises 1 to 7: a new object, and what is done by hand. */
public final class ByHandTest {
    public static void main(String[] args) {
        newObject();
        wind();
        windRefuses();
        set();
        setCutsTheCharge();
        setRefuses();
        setSnow();
        setHands();
        mend();
        forgive();
        Check.end();
    }

    private static void newObject() {
        RemontoirClock clock = new RemontoirClock();
        int[] counts = {0, 0, 10, 0, 0, 0, 0, 0, 0, 0, 0, 0, 0, 0, 0, 0, 0, 0};
        for (int i = 0; i < counts.length; i++) {
            Check.same("new: count(" + i + ")", clock.count(i), counts[i]);
        }
        int[] settings = {10, 2, 8, 6, 0, 6};
        for (int i = 0; i < settings.length; i++) {
            Check.same("new: setting(" + i + ")", clock.setting(i), settings[i]);
        }
        for (int i = 0; i < 3; i++) {
            Check.same("new: height of " + i, clock.weight(i, 0), 200);
            Check.same("new: taken from " + i, clock.weight(i, 1), 0);
            Check.same("new: wound on " + i, clock.weight(i, 2), 0);
        }
        Check.same("new: clearBuffer", clock.clearBuffer(), 0);
        Check.same("NONE", RemontoirClock.NONE, -1);
        Check.same("another one has the same digest", new RemontoirClock().digest(), clock.digest());
    }

    private static void wind() {
        RemontoirClock clock = new RemontoirClock();
        Check.same("wind on a full weight", clock.wind(0, 200), 0);
        Check.same("it is saved all the same", clock.count(17), 1);
        clock.pass(59);
        Check.same("rewindings of 59 minutes", clock.weight(0, 0), 200 - 56);
        Check.same("wind(0, 1)", clock.wind(0, 1), 1);
        Check.same("height", clock.weight(0, 0), 145);
        Check.same("wind(0, 54)", clock.wind(0, 54), 54);
        Check.same("wind up to the top", clock.wind(0, 2), 1);
        Check.same("height", clock.weight(0, 0), 200);
        Check.same("wound", clock.weight(0, 2), 56);
        Check.same("taken", clock.weight(0, 1), 56);
        Check.same("the other weights", clock.weight(1, 2), 0);
        Check.same("chiming weight", clock.wind(2, 200), 12);
    }

    private static void windRefuses() {
        RemontoirClock clock = new RemontoirClock();
        Check.refuses("wind(-1, 1)", clock, Check.NO_INDEX, () -> clock.wind(-1, 1));
        Check.refuses("wind(3, 1)", clock, Check.NO_INDEX, () -> clock.wind(3, 1));
        Check.refuses("wind(3, 0)", clock, Check.NO_INDEX, () -> clock.wind(3, 0));
        Check.refuses("wind(0, 0)", clock, Check.NO_ARGUMENT, () -> clock.wind(0, 0));
        Check.refuses("wind(2, 201)", clock, Check.NO_ARGUMENT, () -> clock.wind(2, 201));
        Check.refuses("wind(0, min)", clock, Check.NO_ARGUMENT, () -> clock.wind(0, Integer.MIN_VALUE));
        Check.refuses("wind(max, max)", clock, Check.NO_INDEX,
                () -> clock.wind(Integer.MAX_VALUE, Integer.MAX_VALUE));
    }

    private static void set() {
        int[] least = {2, 0, 1, 1, 0, 1};
        int[] most = {30, 20, 20, 12, 12, 12};
        int[] first = {10, 2, 8, 6, 0, 6};
        RemontoirClock clock = new RemontoirClock();
        for (int i = 0; i < 6; i++) {
            Check.same("set to the least", clock.set(i, least[i]), first[i]);
            Check.same("set to the most", clock.set(i, most[i]), least[i]);
            Check.same("setting", clock.setting(i), most[i]);
            Check.same("set to the same", clock.set(i, most[i]), most[i]);
        }
        Check.same("states saved", clock.count(17), 6);
    }

    private static void setCutsTheCharge() {
        RemontoirClock clock = new RemontoirClock();
        clock.set(0, 30);
        Check.same("a larger spring has the same charge", clock.count(2), 10);
        clock.set(0, 11);
        Check.same("still", clock.count(2), 10);
        clock.set(0, 9);
        Check.same("cut", clock.count(2), 9);
        clock.set(1, 1);
        Check.same("another setting cuts nothing", clock.count(2), 9);
        Check.same("what was cut does not go back", clock.weight(0, 0), 200);
    }

    private static void setRefuses() {
        int[] least = {2, 0, 1, 1, 0, 1};
        int[] most = {30, 20, 20, 12, 12, 12};
        RemontoirClock clock = new RemontoirClock();
        for (int i = 0; i < 6; i++) {
            int setting = i;
            Check.refuses("set too little", clock, Check.NO_ARGUMENT, () -> clock.set(setting, least[setting] - 1));
            Check.refuses("set too much", clock, Check.NO_ARGUMENT, () -> clock.set(setting, most[setting] + 1));
        }
        Check.refuses("set(-1, 5)", clock, Check.NO_INDEX, () -> clock.set(-1, 5));
        Check.refuses("set(6, 5)", clock, Check.NO_INDEX, () -> clock.set(6, 5));
        Check.refuses("set(6, 99)", clock, Check.NO_INDEX, () -> clock.set(6, 99));
    }

    private static void setSnow() {
        RemontoirClock clock = new RemontoirClock();
        Check.same("setSnow(20)", clock.setSnow(20), 0);
        Check.same("setSnow(0)", clock.setSnow(0), 20);
        Check.same("setSnow(7)", clock.setSnow(7), 0);
        Check.same("snow", clock.count(3), 7);
        Check.same("saved", clock.count(17), 3);
        Check.refuses("setSnow(-1)", clock, Check.NO_ARGUMENT, () -> clock.setSnow(-1));
        Check.refuses("setSnow(21)", clock, Check.NO_ARGUMENT, () -> clock.setSnow(21));
    }

    private static void setHands() {
        RemontoirClock clock = new RemontoirClock();
        Check.same("setHands(719)", clock.setHands(719), 0);
        Check.same("setHands(60)", clock.setHands(60), 719);
        Check.same("nothing is owed by that", clock.count(5), 0);
        Check.same("nothing is chimed by that", clock.count(9), 0);
        Check.same("time", clock.count(1), 60);
        Check.same("minute", clock.count(0), 0);
        Check.same("setHands(0)", clock.setHands(0), 60);
        Check.same("saved", clock.count(17), 3);
        Check.refuses("setHands(-1)", clock, Check.NO_ARGUMENT, () -> clock.setHands(-1));
        Check.refuses("setHands(720)", clock, Check.NO_ARGUMENT, () -> clock.setHands(720));
    }

    private static void mend() {
        RemontoirClock clock = new RemontoirClock();
        Check.same("mend what is whole", clock.mend(), 0);
        Check.same("saved all the same", clock.count(17), 1);
        clock.setSnow(20);
        clock.pass(14);
        Check.same("wear", clock.count(4), 2);
        Check.same("mend", clock.mend(), 2);
        Check.same("wear behind it", clock.count(4), 0);
        Check.same("the slips stay", clock.count(11), 14);
        clock.pass(1);
        Check.same("the 15th slip wears", clock.count(4), 1);
        clock.undo();
        clock.undo();
        Check.same("mend is undone", clock.count(4), 2);
    }

    private static void forgive() {
        RemontoirClock clock = new RemontoirClock();
        Check.same("forgive nothing", clock.forgive(), 0);
        Check.same("saved all the same", clock.count(17), 1);
        clock.set(3, 1);
        clock.setHands(719);
        clock.pass(1);
        clock.setHands(599);
        clock.pass(1);
        Check.same("owed", clock.count(6), 10 + 10);
        Check.same("struck", clock.count(7), 2);
        Check.same("forgive", clock.forgive(), 20);
        Check.same("debts", clock.count(5), 0);
        Check.same("owed behind it", clock.count(6), 0);
        Check.same("forgiven", clock.count(8), 20);
        Check.same("struck stays", clock.count(7), 2);
        clock.undo();
        Check.same("undone: forgiven", clock.count(8), 0);
        Check.same("undone: first debt", clock.debt(0, 1), 10);
    }
}
