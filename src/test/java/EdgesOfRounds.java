/** The edges of the promises 8 to 10. */
final class EdgesOfRounds {
    private EdgesOfRounds() {
    }

    static void run() {
        hireRanges();
        hireReturns();
        hireRefuses();
        dismissMovesTheOthers();
        dismissRefuses();
        passMinutes();
        passRefuses();
        passEndsAt20000();
    }

    private static void hireMany(RemontoirClock clock, int number) {
        for (int i = 0; i < number; i++) {
            clock.hire(i % 3, 10 + i, 700 + i);
        }
    }

    private static void hireRanges() {
        String promise = "Promise 8";
        Sentences.noEdge(promise, "Hires a winder.");
        Sentences.about(promise, "Undoable.");
        Twins.isUndoable("hire", one -> one.hire(1, 1, 1));
        Twins.isUndoable("hire the sixth", one -> hireMany(one, 5), one -> one.hire(1, 1, 1));
        Sentences.about(promise, "`weight`: 0 to 2");
        for (int weight = 0; weight <= 2; weight++) {
            Check.same("weight", hired(weight, 1, 1).winder(0, 0), weight);
        }
        Sentences.about(promise, "`turns`: 1 to 200");
        for (int turns : new int[] {1, 2, 199, 200}) {
            Check.same("turns", hired(2, turns, 1).winder(0, 1), turns);
        }
        Sentences.about(promise, "`period`: 1 to 720");
        for (int period : new int[] {1, 2, 719, 720}) {
            Check.same("period", hired(2, 1, period).winder(0, 2), period);
            Check.same("due in", hired(2, 1, period).winder(0, 3), period);
        }
    }

    private static RemontoirClock hired(int weight, int turns, int period) {
        return Twins.made(one -> one.hire(weight, turns, period));
    }

    private static void hireReturns() {
        Sentences.about("Promise 8", "Returns the number of the winder.");
        RemontoirClock clock = new RemontoirClock();
        for (int i = 0; i < 6; i++) {
            Check.same("number", clock.hire(0, 1, 1), i);
        }
        clock.dismiss(0);
        clock.dismiss(0);
        Check.same("the lowest that is free", clock.hire(0, 1, 1), 4);
    }

    private static void hireRefuses() {
        String promise = "Promise 8";
        Sentences.about(promise, "Throws `IndexOutOfBoundsException` if there is no such weight");
        for (int weight : new int[] {-1, 3, Integer.MIN_VALUE, Integer.MAX_VALUE}) {
            Twins.refuse("hire(" + weight + ", 1, 1)", Check.NO_INDEX, one -> one.hire(weight, 1, 1));
        }
        Sentences.about(promise, "Throws `IllegalArgumentException` if turns or period is out of range");
        for (int wrong : new int[] {0, -1, 721, Integer.MIN_VALUE, Integer.MAX_VALUE}) {
            Twins.refuse("hire(0, " + wrong + ", 1)", Check.NO_ARGUMENT, one -> one.hire(0, wrong, 1));
            Twins.refuse("hire(0, 1, " + wrong + ")", Check.NO_ARGUMENT, one -> one.hire(0, 1, wrong));
            Twins.refuse("hire(0, both)", Check.NO_ARGUMENT, one -> one.hire(0, wrong, wrong));
        }
        Twins.refuse("hire(0, 201, 1)", Check.NO_ARGUMENT, one -> one.hire(0, 201, 1));
        Sentences.about(promise, "Throws `IllegalStateException` if there are 6 winders");
        Check.same("there are 5", Twins.made(one -> hireMany(one, 5)).hire(0, 1, 1), 5);
        Twins.refuse("there are 6", Check.NO_STATE, one -> hireMany(one, 6), one -> one.hire(0, 1, 1));
        Twins.refuse("there are 6 by load", Check.NO_STATE, one -> {
            Check.type(one, "g1/1,g1/1,g1/1,g1/1,g1/1,g1/1");
            one.load();
        }, one -> one.hire(2, 200, 720));
        RemontoirClock undone = Twins.made(one -> hireMany(one, 6));
        undone.undo();
        Check.same("the sixth is undone", undone.hire(0, 1, 1), 5);
    }

    private static void dismissMovesTheOthers() {
        String promise = "Promise 9";
        Sentences.about(promise, "Dismisses a winder; the numbers of those behind him become 1 less.");
        for (int gone = 0; gone < 6; gone++) {
            RemontoirClock clock = Twins.made(one -> hireMany(one, 6));
            clock.dismiss(gone);
            for (int i = 0; i < 5; i++) {
                int was = i < gone ? i : i + 1;
                int[] due = {was % 3, 10 + was, 700 + was, 700 + was, 0, 0};
                for (int what = 0; what < 6; what++) {
                    Check.same("without " + gone + ": " + i + ", " + what, clock.winder(i, what), due[what]);
                }
            }
        }
        RemontoirClock came = new RemontoirClock();
        came.hire(2, 1, 9);
        came.hire(2, 1, 1);
        came.hire(2, 1, 2);
        came.pass(3);
        came.dismiss(0);
        Check.same("his comings go with him", came.winder(0, 4), 2);
        Check.same("so does the minute in which he is due", came.winder(0, 3), 0);
        Check.same("the last one waits since the minute 2", came.winder(1, 4), 0);
        came.pass(1);
        Check.same("so he comes ahead of the other one", came.winder(1, 4), 1);
        Sentences.about(promise, "Undoable.");
        for (int i = 0; i < 4; i++) {
            int gone = i;
            Twins.isUndoable("dismiss " + i, Twins.BUSY_WITH_ROOM, one -> one.dismiss(gone));
        }
        Sentences.about(promise, "`winder`: the number of the winder");
        Check.same("the first", Twins.made(one -> hireMany(one, 6)).dismiss(0), 5);
        Check.same("the last", Twins.made(one -> hireMany(one, 6)).dismiss(5), 5);
        Sentences.about(promise, "Returns how many winders are left.");
        RemontoirClock clock = Twins.made(one -> hireMany(one, 6));
        for (int left = 5; left >= 0; left--) {
            Check.same("left", clock.dismiss(left / 2), left);
        }
        Check.same("the first one again", clock.hire(0, 1, 1), 0);
    }

    private static void dismissRefuses() {
        Sentences.about("Promise 9", "Throws `IndexOutOfBoundsException` if there is no such winder");
        Twins.refuse("of none", Check.NO_INDEX, Twins.NEW, one -> one.dismiss(0));
        for (int number : new int[] {1, 3, 6}) {
            Twins.refuse("dismiss(" + number + ") of as many", Check.NO_INDEX, one -> hireMany(one, number),
                    one -> one.dismiss(number));
        }
        for (int winder : new int[] {-1, 6, Integer.MIN_VALUE, Integer.MAX_VALUE}) {
            Twins.refuse("dismiss(" + winder + ")", Check.NO_INDEX, one -> one.dismiss(winder));
        }
        Twins.refuse("who is gone already", Check.NO_INDEX, one -> {
            one.hire(0, 1, 1);
            one.dismiss(0);
        }, one -> one.dismiss(0));
    }

    private static void passMinutes() {
        String promise = "Promise 10";
        Sentences.noEdge(promise, "Lets minutes pass.");
        Sentences.about(promise, "Undoable, as one call.");
        Twins.isUndoable("pass(1)", one -> one.pass(1));
        Twins.isUndoable("pass(720)", one -> one.pass(720));
        Sentences.about(promise, "`minutes`: 1 to 720");
        for (int minutes : new int[] {1, 2, 719, 720}) {
            RemontoirClock clock = new RemontoirClock();
            clock.pass(minutes);
            Check.same("number of the minute", clock.count(0), minutes);
            Twins.areSame("as one by one", Twins.NEW, one -> undonePass(one, minutes, minutes),
                    one -> undonePass(one, minutes, 1));
        }
        Sentences.about(promise, "Returns how many strokes are struck in them.");
        RemontoirClock clock = new RemontoirClock();
        Check.same("none in 59", clock.pass(59), 0);
        Check.same("one in the 60th", clock.pass(1), 1);
        Check.same("the older ones do not count: none", clock.pass(1), 0);
        Check.same("two in 59", clock.pass(59), 2);
        RemontoirClock half = new RemontoirClock();
        half.hire(0, 200, 150);
        Check.same("all but the last six of 12 hours", half.pass(720), 78 - 6);
        Check.same("the rest", half.pass(1), 6);
        Check.same("strokes struck so far", half.count(7), 78);
    }

    /** Passes the minutes in steps, then drops all saved states but those of three changes. */
    private static void undonePass(RemontoirClock clock, int minutes, int step) {
        int left = minutes;
        int calls = 0;
        while (left > 0 && calls < 300) {
            int next = calls == 299 ? left : Math.min(step, left);
            clock.pass(next);
            left -= next;
            calls++;
        }
        for (int i = 0; i < 6; i++) {
            clock.mend();
        }
    }

    private static void passRefuses() {
        Sentences.about("Promise 10", "Throws `IllegalArgumentException` if minutes is out of range");
        for (int minutes : new int[] {0, -1, 721, Integer.MIN_VALUE, Integer.MAX_VALUE}) {
            Twins.refuse("pass(" + minutes + ")", Check.NO_ARGUMENT, one -> one.pass(minutes));
        }
    }

    private static void passEndsAt20000() {
        Sentences.about("Promise 10", "Throws `IllegalStateException` if the number of the minute would be above 20000");
        for (int minutes : new int[] {1, 2, 719, 720}) {
            Twins.Calls justEnough = one -> Bring.minuteNumberTo(one, 20000 - minutes);
            RemontoirClock clock = Twins.made(justEnough);
            clock.pass(minutes);
            Check.same("20000 is the last", clock.count(0), 20000);
            Twins.Calls tooFar = one -> Bring.minuteNumberTo(one, 20001 - minutes);
            Twins.refuse("20001 by " + minutes, Check.NO_STATE, tooFar, one -> one.pass(minutes));
        }
        Twins.Calls atTheEnd = one -> Bring.minuteNumberTo(one, 20000);
        Twins.refuse("20720", Check.NO_STATE, atTheEnd, one -> one.pass(720));
        RemontoirClock clock = Twins.made(atTheEnd);
        clock.undo();
        Check.same("there is time again", clock.pass(1), 0);
    }
}
