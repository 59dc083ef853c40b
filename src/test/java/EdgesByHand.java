/** The edges of the promises 1 to 7. */
final class EdgesByHand {
    private static final int[] OUTSIDE = {Integer.MIN_VALUE, -200, -1, 0, Integer.MAX_VALUE};

    private EdgesByHand() {
    }

    static void run() {
        newObject();
        windWeights();
        windTurns();
        windReturns();
        setSettings();
        setValues();
        setCutsTheCharge();
        setReturns();
        setSnow();
        setHands();
        mend();
        forgive();
    }

    private static void newObject() {
        Sentences.about("Promise 1",
                "Creates a clock without winders and debts, in the minute 0, with an empty buffer.");
        RemontoirClock clock = new RemontoirClock();
        Check.same("winders", clock.count(14), 0);
        Check.same("debts", clock.count(5), 0);
        Check.same("minute", clock.count(0), 0);
        Check.same("saved states", clock.count(17), 0);
        Check.same("digest with an empty buffer", clock.digest(), Digests.of(clock, ""));
        Check.same("length of the buffer", clock.clearBuffer(), 0);
        for (int what = 0; what <= 17; what++) {
            Check.same("count " + what, clock.count(what), what == 2 ? 10 : 0);
        }
        for (int i = 0; i < 9; i++) {
            Check.same("weight " + i, clock.weight(i / 3, i % 3), i % 3 == 0 ? 200 : 0);
        }
        Twins.refuse("winder(0, 0)", Check.NO_INDEX, Twins.NEW, one -> one.winder(0, 0));
        Twins.refuse("debt(0, 0)", Check.NO_INDEX, Twins.NEW, one -> one.debt(0, 0));
        Twins.refuse("undo", Check.NO_STATE, Twins.NEW, one -> one.undo());
    }

    private static RemontoirClock brought(int weight, int height) {
        RemontoirClock clock = new RemontoirClock();
        if (weight == 0) {
            Bring.goingTo(clock, height);
        } else if (weight == 1) {
            Bring.strikingTo(clock, height);
        } else {
            Bring.chimingTo(clock, height);
        }
        return clock;
    }

    private static void windWeights() {
        Sentences.noEdge("Promise 2", "Winds a weight.");
        Sentences.about("Promise 2", "`weight`: 0 to 2");
        for (int weight = 0; weight <= 2; weight++) {
            RemontoirClock clock = brought(weight, 100);
            int[] before = {clock.weight(0, 0), clock.weight(1, 0), clock.weight(2, 0)};
            clock.wind(weight, 7);
            for (int i = 0; i <= 2; i++) {
                Check.same("wind " + weight + ": height of " + i, clock.weight(i, 0), before[i] + (i == weight ? 7 : 0));
            }
        }
        Sentences.about("Promise 2", "Undoable.");
        Twins.isUndoable("wind(0, 1)", one -> one.wind(0, 1));
        Twins.isUndoable("wind(1, 200)", one -> one.wind(1, 200));
        Sentences.about("Promise 2", "Throws `IndexOutOfBoundsException` if there is no such weight");
        for (int weight : new int[] {-1, 3, Integer.MIN_VALUE, Integer.MAX_VALUE}) {
            Twins.refuse("wind(" + weight + ", 1)", Check.NO_INDEX, one -> one.wind(weight, 1));
        }
    }

    private static void windTurns() {
        Sentences.about("Promise 2", "`turns`: 1 to 200");
        Check.same("1", brought(0, 0).wind(0, 1), 1);
        Check.same("200", brought(0, 0).wind(0, 200), 200);
        Sentences.about("Promise 2", "Throws `IllegalArgumentException` if turns is out of range");
        Twins.refuse("wind(0, 201)", Check.NO_ARGUMENT, one -> one.wind(0, 201));
        for (int turns : OUTSIDE) {
            Twins.refuse("wind(2, " + turns + ")", Check.NO_ARGUMENT, one -> one.wind(2, turns));
        }
    }

    private static void windReturns() {
        Sentences.about("Promise 2", "Returns by how many turns its height becomes greater (it becomes at most 200).");
        for (int weight = 0; weight <= 2; weight++) {
            for (int turns : new int[] {1, 9, 10, 11, 200}) {
                RemontoirClock clock = brought(weight, 190);
                int wound = clock.weight(weight, 2);
                String name = "wind " + weight + " at 190 by " + turns;
                Check.same(name, clock.wind(weight, turns), Math.min(10, turns));
                Check.same(name + ": height", clock.weight(weight, 0), Math.min(200, 190 + turns));
                Check.same(name + ": wound", clock.weight(weight, 2) - wound, Math.min(10, turns));
                Check.same(name + ": then", clock.wind(weight, 200), 10 - Math.min(10, turns));
                Check.same(name + ": at last", clock.wind(weight, 1), 0);
            }
        }
    }

    private static void setSettings() {
        Sentences.noEdge("Promise 3", "Changes a setting.");
        Sentences.about("Promise 3", "`setting`: 0 to 5");
        for (int setting = 0; setting <= 5; setting++) {
            RemontoirClock clock = new RemontoirClock();
            clock.set(setting, 7);
            int[] due = {10, 2, 8, 6, 0, 6};
            due[setting] = 7;
            for (int i = 0; i <= 5; i++) {
                Check.same("set " + setting + ": setting " + i, clock.setting(i), due[i]);
            }
        }
        Sentences.about("Promise 3", "Throws `IndexOutOfBoundsException` if there is no such setting");
        for (int setting : new int[] {-1, 6, Integer.MIN_VALUE, Integer.MAX_VALUE}) {
            Twins.refuse("set(" + setting + ", 5)", Check.NO_INDEX, one -> one.set(setting, 5));
        }
    }

    private static void setValues() {
        int[] least = {2, 0, 1, 1, 0, 1};
        int[] most = {30, 20, 20, 12, 12, 12};
        Sentences.about("Promise 3", "`value`: the new value");
        for (int setting = 0; setting <= 5; setting++) {
            for (int value = least[setting]; value <= most[setting]; value++) {
                RemontoirClock clock = new RemontoirClock();
                clock.set(setting, value);
                Check.same("setting " + setting, clock.setting(setting), value);
            }
        }
        Sentences.about("Promise 3", "Throws `IllegalArgumentException` if value is out of range");
        for (int i = 0; i <= 5; i++) {
            int setting = i;
            int[] values = {least[i] - 1, most[i] + 1, Integer.MIN_VALUE, Integer.MAX_VALUE};
            for (int value : values) {
                Twins.refuse("set(" + setting + ", " + value + ")", Check.NO_ARGUMENT, one -> one.set(setting, value));
            }
        }
        Sentences.about("Promise 3", "Undoable.");
        for (int i = 0; i <= 5; i++) {
            int setting = i;
            Twins.isUndoable("set " + i, one -> one.set(setting, 2));
        }
    }

    private static void setCutsTheCharge() {
        Sentences.about("Promise 3", "(A charge that is greater than the new size of the spring becomes this size.)");
        int[][] sizeAndCharge = {{2, 2}, {9, 9}, {10, 10}, {11, 10}, {30, 10}};
        for (int[] due : sizeAndCharge) {
            RemontoirClock clock = new RemontoirClock();
            clock.set(0, due[0]);
            Check.same("charge of 10, size " + due[0], clock.count(2), due[1]);
            Check.same("the weight is not wound by that", clock.weight(0, 0), 200);
            clock.undo();
            Check.same("undone", clock.count(2), 10);
        }
        RemontoirClock less = new RemontoirClock();
        less.pass(7);
        less.set(0, 4);
        Check.same("a charge of 3, size 4", less.count(2), 3);
        less.set(0, 3);
        Check.same("a charge of 3, size 3", less.count(2), 3);
        less.set(0, 2);
        Check.same("a charge of 3, size 2", less.count(2), 2);
        RemontoirClock other = new RemontoirClock();
        for (int setting = 1; setting <= 5; setting++) {
            other.set(setting, 1);
            Check.same("another setting cuts nothing", other.count(2), 10);
        }
    }

    private static void setReturns() {
        Sentences.about("Promise 3", "Returns the previous value.");
        int[] first = {10, 2, 8, 6, 0, 6};
        RemontoirClock clock = new RemontoirClock();
        for (int setting = 0; setting <= 5; setting++) {
            Check.same("the one at first", clock.set(setting, 3), first[setting]);
            Check.same("the one that was set", clock.set(setting, 12), 3);
            Check.same("the same", clock.set(setting, 12), 12);
        }
    }

    private static void setSnow() {
        Sentences.noEdge("Promise 4", "Changes the snow.");
        Sentences.about("Promise 4", "`snow`: 0 to 20");
        RemontoirClock clock = new RemontoirClock();
        for (int snow = 0; snow <= 20; snow++) {
            clock.setSnow(snow);
            Check.same("snow", clock.count(3), snow);
        }
        Sentences.about("Promise 4", "Undoable.");
        Twins.isUndoable("setSnow(0)", one -> one.setSnow(0));
        Twins.isUndoable("setSnow(20)", one -> one.setSnow(20));
        Sentences.about("Promise 4", "Returns the previous snow.");
        Check.same("20", clock.setSnow(0), 20);
        Check.same("0", clock.setSnow(0), 0);
        Check.same("0 again", clock.setSnow(20), 0);
        Sentences.about("Promise 4", "Throws `IllegalArgumentException` if snow is out of range");
        for (int snow : new int[] {-1, 21, Integer.MIN_VALUE, Integer.MAX_VALUE}) {
            Twins.refuse("setSnow(" + snow + ")", Check.NO_ARGUMENT, one -> one.setSnow(snow));
        }
    }

    private static void setHands() {
        Sentences.about("Promise 5", "Changes the time that the hands show; nothing is chimed or owed by that.");
        for (int time : new int[] {0, 15, 30, 45, 60, 660}) {
            RemontoirClock clock = new RemontoirClock();
            clock.setHands(time);
            Check.same("the time", clock.count(1), time);
            Check.same("the number of the minute stays", clock.count(0), 0);
            Check.same("owed", clock.count(5) + clock.count(6) + clock.count(8), 0);
            Check.same("chimed", clock.count(9) + clock.count(10), 0);
            clock.pass(1);
            Check.same("nor by the next minute", clock.count(6) + clock.count(7) + clock.count(9), 0);
        }
        Sentences.about("Promise 5", "Undoable.");
        Twins.isUndoable("setHands(0)", one -> one.setHands(0));
        Twins.isUndoable("setHands(719)", one -> one.setHands(719));
        Sentences.about("Promise 5", "`time`: 0 to 719");
        RemontoirClock clock = new RemontoirClock();
        clock.setHands(719);
        Check.same("719", clock.count(1), 719);
        clock.setHands(0);
        Check.same("0", clock.count(1), 0);
        Sentences.about("Promise 5", "Returns the previous time.");
        Check.same("0 at first", clock.setHands(719), 0);
        Check.same("then 719", clock.setHands(0), 719);
        Check.same("the same", clock.setHands(0), 0);
        Sentences.about("Promise 5", "Throws `IllegalArgumentException` if time is out of range");
        for (int time : new int[] {-1, 720, Integer.MIN_VALUE, Integer.MAX_VALUE}) {
            Twins.refuse("setHands(" + time + ")", Check.NO_ARGUMENT, one -> one.setHands(time));
        }
    }

    private static void wearTo(RemontoirClock clock, int wear) {
        clock.setSnow(20);
        clock.pass(5 * wear);
        Check.same("brought: wear", clock.count(4), wear);
    }

    private static void mend() {
        Sentences.about("Promise 6", "Mends the pinion: its wear becomes 0 (the number of slips stays).");
        for (int wear : new int[] {1, 2, 20}) {
            RemontoirClock clock = Twins.made(one -> wearTo(one, wear));
            clock.mend();
            Check.same("wear", clock.count(4), 0);
            Check.same("slips", clock.count(11), 5 * wear);
        }
        Sentences.about("Promise 6", "Undoable.");
        Twins.isUndoable("mend what is whole", Twins.NEW, one -> one.mend());
        Twins.isUndoable("mend what is worn", one -> one.mend());
        Sentences.about("Promise 6", "Returns the wear that it had.");
        Check.same("0", new RemontoirClock().mend(), 0);
        Check.same("1", Twins.made(one -> wearTo(one, 1)).mend(), 1);
        RemontoirClock most = Twins.made(one -> wearTo(one, 20));
        Check.same("20", most.mend(), 20);
        Check.same("then 0", most.mend(), 0);
    }

    private static void forgive() {
        Sentences.about("Promise 7", "Forgives all debts; they are gone.");
        int[][] hours = {{}, {1}, {12, 11, 10}, {12, 11, 10, 9}};
        for (int[] owed : hours) {
            RemontoirClock clock = Twins.made(one -> Bring.debtsOf(one, owed));
            int sum = clock.count(6);
            clock.forgive();
            Check.same("debts", clock.count(5), 0);
            Check.same("strokes that are owed", clock.count(6), 0);
            Check.same("strokes that are forgiven", clock.count(8), sum);
            clock.wind(1, 12);
            Check.same("none is struck any more", clock.pass(3), 0);
        }
        Sentences.about("Promise 7", "Undoable.");
        Twins.isUndoable("forgive nothing", Twins.NEW, one -> one.forgive());
        Twins.isUndoable("forgive", one -> one.forgive());
        Sentences.about("Promise 7", "Returns how many strokes are forgiven.");
        Check.same("0 of no debts", new RemontoirClock().forgive(), 0);
        RemontoirClock clock = Twins.made(one -> Bring.debtsOf(one, 12, 11, 10, 9));
        clock.wind(1, 3);
        clock.pass(1);
        Check.same("what is left of all", clock.forgive(), 12 + 11 + 10 + 9 - 3);
        Check.same("then 0", clock.forgive(), 0);
    }
}
