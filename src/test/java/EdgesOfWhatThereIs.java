import java.util.Arrays;

/** The edges of the promises 16 to 20. */
final class EdgesOfWhatThereIs {
    private static final int[] FAR = {Integer.MIN_VALUE, Integer.MAX_VALUE};

    private EdgesOfWhatThereIs() {
    }

    static void run() {
        weight();
        weightRefuses();
        winder();
        winderDueIn();
        winderKeptOut();
        winderRefuses();
        debt();
        debtRefuses();
        count();
        countBehind();
        countRefuses();
        setting();
    }

    private static void weight() {
        String promise = "Promise 16";
        Sentences.noEdge(promise, "Returns a property of a weight.");
        Sentences.about(promise, "`weight`: 0 to 2");
        RemontoirClock clock = new RemontoirClock();
        clock.hire(2, 3, 59);
        clock.pass(60);
        clock.wind(0, 50);
        int[][] due = {{194, 56, 50}, {199, 1, 0}, {200 - 12 + 3 - 8, 20, 3}};
        for (int i = 0; i <= 2; i++) {
            Check.same("height of " + i, clock.weight(i, 0), due[i][0]);
        }
        Sentences.about(promise, "`what`: 0: its height; 1: turns that were taken from it so far; 2: by how many turns"
                + " its height became greater so far, by hand and by winders");
        for (int i = 0; i <= 2; i++) {
            for (int what = 0; what <= 2; what++) {
                Check.same("weight " + i + ", " + what, clock.weight(i, what), due[i][what]);
            }
        }
        clock.wind(0, 200);
        Check.same("turns that find no room do not count", clock.weight(0, 2), 56);
        clock.hire(0, 200, 1);
        clock.pass(3);
        Check.same("nor those of winders", clock.weight(0, 2), clock.weight(0, 1));
        Sentences.noEdge(promise, "Returns the property.");
    }

    private static void weightRefuses() {
        String promise = "Promise 16";
        Sentences.about(promise, "Throws `IndexOutOfBoundsException` if there is no such weight");
        Twins.refuse("weight(-1, 0)", Check.NO_INDEX, one -> one.weight(-1, 0));
        Twins.refuse("weight(3, 0)", Check.NO_INDEX, one -> one.weight(3, 0));
        for (int far : FAR) {
            Twins.refuse("weight(far, 0)", Check.NO_INDEX, one -> one.weight(far, 0));
        }
        Sentences.about(promise, "Throws `IllegalArgumentException` if what is not 0 to 2");
        for (int i = 0; i <= 2; i++) {
            int weight = i;
            Twins.refuse("weight(" + i + ", -1)", Check.NO_ARGUMENT, one -> one.weight(weight, -1));
            Twins.refuse("weight(" + i + ", 3)", Check.NO_ARGUMENT, one -> one.weight(weight, 3));
            for (int far : FAR) {
                Twins.refuse("weight(" + i + ", far)", Check.NO_ARGUMENT, one -> one.weight(weight, far));
            }
        }
        for (int i = 0; i < 9; i++) {
            int asked = i;
            Twins.changeNothing("weight", one -> one.weight(asked / 3, asked % 3));
        }
    }

    private static void winder() {
        String promise = "Promise 17";
        Sentences.noEdge(promise, "Returns a property of a winder.");
        Sentences.about(promise, "`winder`: the number of the winder");
        RemontoirClock clock = new RemontoirClock();
        for (int i = 0; i < 6; i++) {
            clock.hire(i % 3, 200 - i, 720 - i);
        }
        for (int i = 0; i < 6; i++) {
            Check.same("weight of " + i, clock.winder(i, 0), i % 3);
            Check.same("turns of " + i, clock.winder(i, 1), 200 - i);
            Check.same("period of " + i, clock.winder(i, 2), 720 - i);
        }
        Sentences.noEdge(promise, "`what`: 0: his weight; 1: his turns; 2: his period;");
        Sentences.noEdge(promise, "Returns the property.");
        Sentences.about(promise, "4: how often he came;");
        RemontoirClock comes = Twins.made(one -> one.hire(2, 1, 4));
        int[] times = {0, 0, 0, 0, 1, 1, 1, 1, 2};
        for (int i = 0; i < times.length; i++) {
            comes.pass(1);
            Check.same("behind " + (i + 1), comes.winder(0, 4), times[i]);
        }
        comes.undo();
        Check.same("undone", comes.winder(0, 4), 1);
    }

    private static void winderDueIn() {
        Sentences.about("Promise 17", "3: how many minutes pass until the first one in which he is due, 0 if he is due"
                + " in the next one already;");
        RemontoirClock clock = Twins.made(one -> one.hire(2, 1, 4));
        int[] until = {3, 2, 1, 0, 3, 2, 1, 0, 3};
        for (int i = 0; i < until.length; i++) {
            clock.pass(1);
            Check.same("behind " + (i + 1), clock.winder(0, 3), until[i]);
        }
        Check.same("at most 720", Twins.made(one -> one.hire(2, 1, 720)).winder(0, 3), 720);
        RemontoirClock waits = Twins.made(EdgesOfWhatThereIs::strikerWaits);
        for (int i = 0; i < 5; i++) {
            Check.same("who waits", waits.winder(0, 3), 0);
            waits.pass(1);
        }
    }

    /** Behind this a striking winder has been due for two minutes, and ten strokes are left. */
    private static void strikerWaits(RemontoirClock clock) {
        clock.set(3, 1);
        clock.setHands(719);
        clock.pass(1);
        clock.hire(1, 1, 1);
        clock.pass(1);
        Check.same("brought: strokes", clock.count(6), 10);
        clock.pass(2);
    }

    private static void winderKeptOut() {
        Sentences.about("Promise 17", "5: 1 if he is due in the next minute and kept out now, otherwise 0");
        RemontoirClock clock = new RemontoirClock();
        clock.set(3, 1);
        clock.setHands(718);
        clock.hire(1, 1, 3);
        clock.pass(2);
        Check.same("a debt, and not due in the next minute", clock.winder(0, 5), 0);
        clock.pass(1);
        Check.same("a debt, and due in the next minute", clock.winder(0, 5), 1);
        clock.hire(1, 1, 1);
        Check.same("the other one is not due", clock.winder(1, 5), 0);
        clock.pass(9);
        Check.same("one stroke is left", clock.winder(0, 5), 1);
        Check.same("of the other one too", clock.winder(1, 5), 1);
        clock.pass(1);
        Check.same("none is left", clock.winder(0, 5), 0);
        Check.same("though he is due", clock.winder(0, 3), 0);
        RemontoirClock silent = Twins.made(EdgesOfWhatThereIs::strikerWaits);
        silent.set(4, 12);
        Check.same("silence does not matter", silent.winder(0, 5), 1);
    }

    private static void winderRefuses() {
        String promise = "Promise 17";
        Sentences.about(promise, "Throws `IndexOutOfBoundsException` if there is no such winder");
        Twins.refuse("of none", Check.NO_INDEX, Twins.NEW, one -> one.winder(0, 0));
        Twins.refuse("winder(-1, 0)", Check.NO_INDEX, one -> one.winder(-1, 0));
        Twins.refuse("winder(4, 0) of four", Check.NO_INDEX, Twins.BUSY, one -> one.winder(4, 0));
        Twins.refuse("winder(6, 0)", Check.NO_INDEX, one -> one.winder(6, 0));
        for (int far : FAR) {
            Twins.refuse("winder(far, 0)", Check.NO_INDEX, one -> one.winder(far, 0));
        }
        Check.same("the last of four is one", Twins.made(Twins.BUSY).winder(3, 1), 3);
        Sentences.about(promise, "Throws `IllegalArgumentException` if what is not 0 to 5");
        for (int what : new int[] {-1, 6, Integer.MIN_VALUE, Integer.MAX_VALUE}) {
            Twins.refuse("winder(0, " + what + ")", Check.NO_ARGUMENT, Twins.BUSY, one -> one.winder(0, what));
            Twins.refuse("winder(3, " + what + ")", Check.NO_ARGUMENT, Twins.BUSY, one -> one.winder(3, what));
        }
        for (int i = 0; i < 24; i++) {
            int asked = i;
            Twins.areSame("winder", Twins.BUSY, one -> one.winder(asked / 6, asked % 6), Twins.NEW);
        }
    }

    private static void debt() {
        String promise = "Promise 18";
        Sentences.noEdge(promise, "Returns a property of a debt.");
        Sentences.about(promise, "`debt`: its place in the order of the debts, from 0");
        RemontoirClock clock = Twins.made(one -> Bring.debtsOf(one, 12, 1, 11, 4));
        int[] hours = {12, 1, 11, 4};
        for (int i = 0; i < 4; i++) {
            Check.same("hour of " + i, clock.debt(i, 0), hours[i]);
        }
        Sentences.about(promise, "`what`: 0: the hour for which it is owed; 1: the strokes that are left");
        clock.wind(1, 11);
        clock.set(3, 11);
        clock.pass(1);
        Check.same("hour of the first", clock.debt(0, 0), 12);
        Check.same("one stroke is left of it", clock.debt(0, 1), 1);
        Check.same("hour of the second", clock.debt(1, 0), 1);
        Check.same("all is left of it", clock.debt(1, 1), 1);
        Sentences.noEdge(promise, "Returns the property.");
        for (int i = 0; i < 4; i++) {
            int asked = i;
            Twins.areSame("debt", Twins.BUSY, one -> one.debt(asked / 2, asked % 2), Twins.NEW);
        }
    }

    private static void debtRefuses() {
        String promise = "Promise 18";
        Sentences.about(promise, "Throws `IndexOutOfBoundsException` if there is no such debt");
        for (int i = 0; i <= 4; i++) {
            int number = i;
            int[] hours = {12, 11, 10, 9};
            Twins.Calls making = one -> Bring.debtsOf(one, Arrays.copyOf(hours, number));
            Twins.refuse("debt(" + i + ", 0) of as many", Check.NO_INDEX, making, one -> one.debt(number, 0));
            Twins.refuse("debt(-1, 0) of " + i, Check.NO_INDEX, making, one -> one.debt(-1, 0));
            if (i > 0) {
                Check.same("the last of " + i, Twins.made(making).debt(i - 1, 1), hours[i - 1]);
            }
        }
        for (int far : FAR) {
            Twins.refuse("debt(far, 0)", Check.NO_INDEX, one -> one.debt(far, 0));
        }
        Sentences.about(promise, "Throws `IllegalArgumentException` if what is not 0 or 1");
        for (int what : new int[] {-1, 2, Integer.MIN_VALUE, Integer.MAX_VALUE}) {
            Twins.refuse("debt(0, " + what + ")", Check.NO_ARGUMENT, Twins.BUSY, one -> one.debt(0, what));
            Twins.refuse("debt(1, " + what + ")", Check.NO_ARGUMENT, Twins.BUSY, one -> one.debt(1, what));
        }
    }

    /** Each number once where it is 1 more than it was. */
    private static void count() {
        String promise = "Promise 19";
        Sentences.noEdge(promise, "Returns a number.");
        Sentences.about(promise, "`what`: 0: number of the minute; 1: the time that the hands show; 2: charge; 3: snow;"
                + " 4: wear; 5: debts; 6: strokes that are owed; 7: strokes struck so far; 8: strokes forgiven so far;"
                + " 9: phrases chimed so far; 10: phrases missed so far; 11: slips so far; 12: minutes in which the"
                + " clock stood so far; 13: rewindings so far; 14: winders;");
        RemontoirClock clock = new RemontoirClock();
        Bring.strikingTo(clock, 1);
        Bring.chimingTo(clock, 3);
        Bring.goingTo(clock, 0);
        Bring.chargeTo(clock, 6);
        int[] was = all(clock);
        clock.setHands(119);
        clock.pass(1);
        isMore("to the second hour", clock, was, 1, 120 - 1, -1, 0, 0, 1, 1, 1, 0, 1, 3, 0, 0, 0, 0);
        clock.forgive();
        isMore("forgiven", clock, was, 1, 120 - 1, -1, 0, 0, 0, 0, 1, 1, 1, 3, 0, 0, 0, 0);
        clock.setSnow(9);
        clock.pass(5);
        isMore("slips", clock, was, 6, 120 - 1, -6, 9, 1, 0, 0, 1, 1, 1, 3, 5, 0, 0, 0);
        clock.pass(1);
        isMore("stands", clock, was, 7, 120 - 1, -6, 9, 1, 0, 0, 1, 1, 1, 3, 5, 1, 0, 0);
        clock.hire(0, 1, 1);
        clock.wind(0, 2);
        clock.pass(1);
        isMore("rewound", clock, was, 8, 120 - 1, -5, 9, 1, 0, 0, 1, 1, 1, 3, 6, 1, 1, 1);
        Sentences.about(promise, "17: saved states");
        RemontoirClock saved = new RemontoirClock();
        for (int i = 1; i <= 8; i++) {
            saved.mend();
            Check.same("saved", saved.count(17), Math.min(6, i));
        }
        saved.undo();
        Check.same("one is dropped", saved.count(17), 5);
        Sentences.about(promise, "16: 1 if the clock is silent, otherwise 0;");
        RemontoirClock silent = Twins.made(one -> one.set(4, 2));
        int[] times = {119, 120, 479, 480};
        for (int i = 0; i < 4; i++) {
            silent.setHands(times[i]);
            Check.same("silent at " + times[i], silent.count(16), i == 1 || i == 2 ? 1 : 0);
        }
    }

    private static int[] all(RemontoirClock clock) {
        int[] numbers = new int[15];
        for (int what = 0; what < 15; what++) {
            numbers[what] = clock.count(what);
        }
        return numbers;
    }

    private static void isMore(String name, RemontoirClock clock, int[] was, int... by) {
        for (int what = 0; what < by.length; what++) {
            Check.same(name + ": count " + what, clock.count(what) - was[what], by[what]);
        }
    }

    private static void countBehind() {
        Sentences.about("Promise 19",
                "15: how many minutes the hands are behind: (number of the minute minus the time) modulo 720, 0 to 719;");
        for (int minute : new int[] {0, 1, 719, 720, 721, 1440, 20000}) {
            for (int time : new int[] {0, 1, 718, 719}) {
                RemontoirClock clock = Twins.made(one -> Bring.minuteNumberTo(one, minute));
                clock.setHands(time);
                Check.same("minute " + minute + ", time " + time, clock.count(15), (minute + 720 - time) % 720);
            }
        }
    }

    private static void countRefuses() {
        Sentences.noEdge("Promise 19", "Returns the number.");
        Sentences.about("Promise 19", "Throws `IllegalArgumentException` if what is not 0 to 17");
        for (int what : new int[] {-1, 18, Integer.MIN_VALUE, Integer.MAX_VALUE}) {
            Twins.refuse("count(" + what + ")", Check.NO_ARGUMENT, one -> one.count(what));
        }
        for (int what = 0; what <= 17; what++) {
            int asked = what;
            Twins.changeNothing("count " + what, one -> one.count(asked));
        }
    }

    private static void setting() {
        String promise = "Promise 20";
        Sentences.noEdge(promise, "Returns a setting.");
        Sentences.about(promise, "`setting`: 0 to 5");
        int[] first = {10, 2, 8, 6, 0, 6};
        RemontoirClock clock = new RemontoirClock();
        for (int i = 0; i <= 5; i++) {
            Check.same("setting " + i, clock.setting(i), first[i]);
        }
        Sentences.about(promise, "Returns its value.");
        int[] least = {2, 0, 1, 1, 0, 1};
        int[] most = {30, 20, 20, 12, 12, 12};
        for (int i = 0; i <= 5; i++) {
            clock.set(i, least[i]);
            Check.same("the least of " + i, clock.setting(i), least[i]);
            clock.set(i, most[i]);
            Check.same("the most of " + i, clock.setting(i), most[i]);
        }
        Sentences.about(promise, "Throws `IndexOutOfBoundsException` if there is no such setting");
        for (int setting : new int[] {-1, 6, Integer.MIN_VALUE, Integer.MAX_VALUE}) {
            Twins.refuse("setting(" + setting + ")", Check.NO_INDEX, one -> one.setting(setting));
        }
        for (int i = 0; i <= 5; i++) {
            int asked = i;
            Twins.changeNothing("setting " + i, one -> one.setting(asked));
        }
    }
}
