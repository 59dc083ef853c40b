/** The edges that the terms name ahead of the minute: "Terms", "Parts" and "Winders". */
final class EdgesOfParts {
    private EdgesOfParts() {
    }

    static void run() {
        divisionsAreRoundedDown();
        threeWeights();
        heights();
        charge();
        handsShow();
        hourOfTime();
        sizeOfSpring();
        chargeForRewinding();
        grip();
        pace();
        firstHourOfSilence();
        hoursOfSilence();
        snowAndWear();
        silence();
        debtIsStrokesWithHour();
        fourDebts();
        sixWinders();
        winderIsDueAtFirst();
        winderIsDueUntilHeComes();
        strikersAreKeptOut();
    }

    private static int silentAt(int time, int firstHour, int hours) {
        RemontoirClock clock = new RemontoirClock();
        clock.set(4, firstHour);
        clock.set(5, hours);
        clock.setHands(time);
        return clock.count(16);
    }

    private static void divisionsAreRoundedDown() {
        Sentences.about("Terms", "All numbers are integers; divisions are rounded down.");
        Check.same("119 / 60 is 1", silentAt(119, 1, 1), 1);
        Check.same("119 / 60 is not 2", silentAt(119, 2, 1), 0);
        Check.same("120 / 60 is 2", silentAt(120, 2, 1), 1);
    }

    private static void threeWeights() {
        Sentences.about("Parts",
                "There are three weights: 0 the going weight, 1 the striking weight, 2 the chiming weight.");
        RemontoirClock clock = new RemontoirClock();
        clock.pass(60);
        int[] taken = {56, 1, 20};
        for (int i = 0; i < 3; i++) {
            Check.same("turns taken from " + i, clock.weight(i, 1), taken[i]);
        }
        Twins.refuse("weight(-1, 0)", Check.NO_INDEX, one -> one.weight(-1, 0));
        Twins.refuse("weight(3, 0)", Check.NO_INDEX, one -> one.weight(3, 0));
    }

    private static void heights() {
        Sentences.about("Parts", "Each has a height, 0 to 200 turns, at first 200.");
        RemontoirClock clock = new RemontoirClock();
        for (int i = 0; i < 3; i++) {
            Check.same("at first", clock.weight(i, 0), 200);
            Check.same("none above 200", clock.wind(i, 1), 0);
            Check.same("still", clock.weight(i, 0), 200);
        }
        Bring.chimingTo(clock, 199);
        Bring.goingTo(clock, 199);
        RemontoirClock striking = Twins.made(one -> Bring.strikingTo(one, 199));
        Check.same("200 is", clock.wind(0, 1) + clock.wind(2, 1) + striking.wind(1, 1), 3);
        Check.same("201 is not", clock.wind(0, 1) + clock.wind(2, 1) + striking.wind(1, 1), 0);
        goingEndsAt0();
        strikingEndsAt0();
        chimingEndsAt0();
    }

    private static void goingEndsAt0() {
        RemontoirClock clock = new RemontoirClock();
        Bring.goingTo(clock, 1);
        Bring.chargeTo(clock, 2);
        clock.pass(1);
        Check.same("the last turn of the going weight", clock.weight(0, 0), 0);
        clock.pass(9);
        Check.same("none below 0", clock.weight(0, 0), 0);
        Check.same("turns taken", clock.weight(0, 1), 200 + clock.weight(0, 2));
    }

    private static void strikingEndsAt0() {
        RemontoirClock clock = new RemontoirClock();
        Bring.strikingTo(clock, 1);
        Bring.minuteTo(clock, 120);
        Check.same("the last turn of the striking weight", clock.weight(1, 0), 0);
        clock.pass(3);
        Check.same("none below 0", clock.weight(1, 0), 0);
        Check.same("turns taken", clock.weight(1, 1), 200);
    }

    private static void chimingEndsAt0() {
        RemontoirClock clock = new RemontoirClock();
        Bring.chimingTo(clock, 2);
        Bring.minuteTo(clock, 15);
        Check.same("the last turns of the chiming weight", clock.weight(2, 0), 0);
        Bring.minuteTo(clock, 15);
        Check.same("none below 0", clock.weight(2, 0), 0);
        Check.same("turns taken", clock.weight(2, 1), 200);
    }

    private static void charge() {
        Sentences.about("Parts", "The spring has a charge, at first 10.");
        RemontoirClock clock = new RemontoirClock();
        Check.same("at first", clock.count(2), 10);
        clock.set(1, 0);
        clock.pass(10);
        Check.same("ten minutes", clock.count(2), 0);
        Check.same("without rewinding", clock.count(13), 0);
        clock.pass(1);
        Check.same("not eleven", clock.count(13), 1);
    }

    private static void handsShow() {
        Sentences.about("Parts", "The hands show a time, 0 to 719 minutes, at first 0.");
        RemontoirClock clock = new RemontoirClock();
        Check.same("at first", clock.count(1), 0);
        clock.setHands(718);
        clock.pass(1);
        Check.same("719 is a time", clock.count(1), 719);
        clock.pass(1);
        Check.same("720 is not", clock.count(1), 0);
    }

    private static void hourOfTime() {
        Sentences.about("Parts", "The hour of a time is time / 60, or 12 if that is 0.");
        for (int hour = 1; hour <= 12; hour++) {
            int from = hour % 12 * 60;
            Check.same(hour + " begins", silentAt(from, hour, 1), 1);
            Check.same(hour + " ends", silentAt(from + 59, hour, 1), 1);
            Check.same(hour + " is not before it", silentAt((from + 719) % 720, hour, 1), 0);
            Check.same(hour + " is not behind it", silentAt((from + 60) % 720, hour, 1), 0);
            RemontoirClock clock = new RemontoirClock();
            clock.setHands((from + 719) % 720);
            Check.same("strokes at " + from, clock.pass(1) + clock.count(6), hour);
        }
    }

    private static RemontoirClock refuses(int setting, int tooLittle, int tooMuch, int atFirst) {
        Twins.refuse("set(" + setting + ", " + tooLittle + ")", Check.NO_ARGUMENT, one -> one.set(setting, tooLittle));
        Twins.refuse("set(" + setting + ", " + tooMuch + ")", Check.NO_ARGUMENT, one -> one.set(setting, tooMuch));
        RemontoirClock clock = new RemontoirClock();
        Check.same("setting " + setting + " at first", clock.setting(setting), atFirst);
        return clock;
    }

    private static void sizeOfSpring() {
        Sentences.noEdge("Parts", "There are these settings:");
        Sentences.about("Parts", "0: the size of the spring, 2 to 30, at first 10;");
        RemontoirClock clock = refuses(0, 1, 31, 10);
        clock.set(1, 20);
        clock.set(0, 2);
        clock.pass(2);
        Check.same("rewound to 2", clock.weight(0, 1), 1);
        clock.set(0, 30);
        clock.pass(1);
        Check.same("rewound from 1 to 30", clock.weight(0, 1), 1 + 29);
    }

    private static void chargeForRewinding() {
        Sentences.about("Parts", "1: the charge for rewinding, 0 to 20, at first 2;");
        RemontoirClock clock = refuses(1, -1, 21, 2);
        clock.set(1, 0);
        clock.pass(10);
        Check.same("not rewound at 1", clock.count(13), 0);
        clock.pass(1);
        Check.same("rewound at 0", clock.count(13), 1);
        clock.set(1, 20);
        clock.set(0, 22);
        clock.pass(1);
        Check.same("rewound at 9, to 22", clock.weight(0, 1), 10 + 13);
        clock.pass(1);
        Check.same("not at 21", clock.count(13), 2);
        clock.pass(1);
        Check.same("at 20", clock.count(13), 3);
    }

    private static void grip() {
        Sentences.about("Parts", "2: the grip of the pinion, 1 to 20, at first 8;");
        RemontoirClock clock = refuses(2, 0, 21, 8);
        clock.set(2, 1);
        clock.setSnow(1);
        clock.pass(1);
        Check.same("a grip of 1 holds 1", clock.count(11), 0);
        clock.setSnow(2);
        clock.pass(1);
        Check.same("and not 2", clock.count(11), 1);
        clock.set(2, 20);
        clock.setSnow(20);
        clock.pass(1);
        Check.same("a grip of 20 holds 20", clock.count(11), 1);
    }

    private static void pace() {
        Sentences.about("Parts", "3: the pace of striking, 1 to 12 strokes in a minute, at first 6;");
        RemontoirClock clock = refuses(3, 0, 13, 6);
        clock.setHands(719);
        Check.same("a pace of 6", clock.pass(1), 6);
        clock.set(3, 1);
        Check.same("a pace of 1", clock.pass(1), 1);
        clock.forgive();
        clock.set(3, 12);
        clock.setHands(719);
        Check.same("a pace of 12", clock.pass(1), 12);
    }

    private static void firstHourOfSilence() {
        Sentences.about("Parts", "4: the first hour of silence, 0 to 12, at first 0 (0: there is no silence);");
        refuses(4, -1, 13, 0);
        for (int hour = 0; hour < 12; hour++) {
            Check.same("no silence at " + hour, silentAt(60 * hour, 0, 12), 0);
        }
        Check.same("1 is not at 59", silentAt(59, 1, 1), 0);
        Check.same("1 is at 60", silentAt(60, 1, 1), 1);
        Check.same("12 is at 59", silentAt(59, 12, 1), 1);
        Check.same("12 is not at 60", silentAt(60, 12, 1), 0);
        Check.same("12 is not at 719", silentAt(719, 12, 1), 0);
    }

    private static void hoursOfSilence() {
        Sentences.about("Parts", "5: the number of hours of silence, 1 to 12, at first 6.");
        RemontoirClock clock = refuses(5, 0, 13, 6);
        clock.set(4, 1);
        clock.setHands(60 * 6 + 59);
        Check.same("the sixth is one at first", clock.count(16), 1);
        clock.setHands(60 * 7);
        Check.same("the seventh is none", clock.count(16), 0);
        Check.same("of 1 hour: the first", silentAt(299, 4, 1), 1);
        Check.same("of 1 hour: not the second", silentAt(300, 4, 1), 0);
        for (int hour = 0; hour < 12; hour++) {
            Check.same("of 12 hours: all, " + hour, silentAt(60 * hour, 4, 12), 1);
        }
        Check.same("of 11 hours: not the last", silentAt(239, 4, 11), 0);
    }

    private static void snowAndWear() {
        Sentences.about("Parts",
                "There is snow, 0 to 20, at first 0, and the pinion has wear, 0 to 20, at first 0.");
        RemontoirClock clock = new RemontoirClock();
        Check.same("snow at first", clock.count(3), 0);
        Check.same("wear at first", clock.count(4), 0);
        Twins.refuse("setSnow(-1)", Check.NO_ARGUMENT, one -> one.setSnow(-1));
        Twins.refuse("setSnow(21)", Check.NO_ARGUMENT, one -> one.setSnow(21));
        clock.setSnow(20);
        clock.pass(100);
        Check.same("wear 20", clock.count(4), 20);
        clock.pass(5);
        Check.same("not 21", clock.count(4), 20);
        Check.same("mended", clock.mend(), 20);
        Check.same("wear 0", clock.count(4), 0);
    }

    /** Every first hour, every number of hours, and every hour. */
    private static void silence() {
        Sentences.about("Parts", "The clock is silent if there is silence, and the hour of the time that the hands"
                + " show is one of the hours of silence: the first one and those that follow it, as many in all as"
                + " setting 5 tells (behind 12 comes 1).");
        for (int first = 0; first <= 12; first++) {
            for (int hours = 1; hours <= 12; hours++) {
                silenceOf(first, hours);
            }
        }
    }

    private static void silenceOf(int first, int hours) {
        boolean[] silent = new boolean[13];
        int hour = first;
        for (int i = 0; i < hours && first > 0; i++) {
            silent[hour] = true;
            hour++;
            if (hour > 12) {
                hour = 1;
            }
        }
        for (int at = 1; at <= 12; at++) {
            String name = "hour " + at + ", " + hours + " from " + first;
            Check.same(name, silentAt(at % 12 * 60, first, hours), silent[at] ? 1 : 0);
            Check.same(name + ", its end", silentAt(at % 12 * 60 + 59, first, hours), silent[at] ? 1 : 0);
        }
    }

    private static void debtIsStrokesWithHour() {
        Sentences.about("Parts",
                "A debt is a number of strokes that are owed, with the hour for which they are owed.");
        RemontoirClock clock = new RemontoirClock();
        clock.set(3, 11);
        clock.setHands(719);
        clock.pass(1);
        Check.same("of 12 one is left", clock.debt(0, 1), 1);
        Check.same("the hour stays 12", clock.debt(0, 0), 12);
        clock.pass(1);
        Check.same("a debt of 0 strokes is none", clock.count(5), 0);
    }

    private static void fourDebts() {
        Sentences.about("Parts", "There are at most 4 debts, in the order in which they came.");
        RemontoirClock clock = new RemontoirClock();
        Bring.debtsOf(clock, 9, 3, 12);
        Check.same("three", clock.count(5), 3);
        Bring.minuteTo(clock, 60);
        Check.same("four", clock.count(5), 4);
        int[] hours = {9, 3, 12, 1};
        for (int i = 0; i < 4; i++) {
            Check.same("debt " + i, clock.debt(i, 0), hours[i]);
        }
        Bring.minuteTo(clock, 120);
        Check.same("not five", clock.count(5), 4);
        int[] then = {3, 12, 1, 2};
        for (int i = 0; i < 4; i++) {
            Check.same("debt " + i, clock.debt(i, 0), then[i]);
        }
    }

    private static void hireMany(RemontoirClock clock, int number) {
        for (int i = 0; i < number; i++) {
            clock.hire(2, 1 + i, 700 + i);
        }
    }

    private static void sixWinders() {
        Sentences.about("Winders", "There are at most 6 winders, numbered from 0.");
        RemontoirClock clock = Twins.made(one -> hireMany(one, 5));
        Check.same("the sixth", clock.hire(0, 9, 9), 5);
        Check.same("the first is 0", clock.winder(0, 1), 1);
        Check.same("the last is 5", clock.winder(5, 1), 9);
        Twins.refuse("a seventh", Check.NO_STATE, one -> hireMany(one, 6), one -> one.hire(0, 9, 9));
        clock.dismiss(2);
        Check.same("a sixth again", clock.hire(0, 8, 8), 5);
    }

    private static void winderIsDueAtFirst() {
        Sentences.about("Winders", "A winder has a weight, a number of turns, 1 to 200, a period, 1 to 720 minutes, and"
                + " a minute in which he is due: at first the number of the minute in which he was hired plus his"
                + " period.");
        for (int period : new int[] {1, 2, 719, 720}) {
            RemontoirClock clock = new RemontoirClock();
            clock.pass(3);
            clock.hire(2, 1, period);
            Check.same("until he is due", clock.winder(0, 3), period);
            clock.pass(period);
            Check.same("not before " + period, clock.winder(0, 4), 0);
            clock.pass(1);
            Check.same("in " + period, clock.winder(0, 4), 1);
        }
        for (int turns : new int[] {1, 200}) {
            RemontoirClock clock = new RemontoirClock();
            Bring.chimingTo(clock, 0);
            clock.hire(2, turns, 1);
            clock.pass(2);
            Check.same("turns", clock.weight(2, 0), turns);
        }
        Twins.refuse("turns 0", Check.NO_ARGUMENT, one -> one.hire(0, 0, 1));
        Twins.refuse("turns 201", Check.NO_ARGUMENT, one -> one.hire(0, 201, 1));
        Twins.refuse("period 0", Check.NO_ARGUMENT, one -> one.hire(0, 1, 0));
        Twins.refuse("period 721", Check.NO_ARGUMENT, one -> one.hire(0, 1, 721));
    }

    private static void winderIsDueUntilHeComes() {
        Sentences.about("Winders", "A winder is due in that minute and in those behind it, until he comes.");
        RemontoirClock clock = new RemontoirClock();
        clock.set(3, 1);
        clock.hire(1, 5, 5);
        clock.setHands(298);
        clock.pass(4);
        Check.same("the minute before it: not due", clock.why(2), 2);
        clock.pass(1);
        Check.same("that minute: due, and kept out", clock.why(2), 3);
        clock.pass(1);
        Check.same("the minute behind it: due", clock.why(2), 0);
        Check.same("who has not come", clock.winder(0, 4), 0);
        clock.pass(1);
        Check.same("he came", clock.winder(0, 4), 1);
        Check.same("and is due no longer", clock.why(2), 2);
        Check.same("not for four minutes", clock.winder(0, 3), 4);
    }

    private static void strikersAreKeptOut() {
        Sentences.about("Winders", "A winder of the striking weight who is due is kept out as long as there is a debt"
                + " and the height of the striking weight is not 0.");
        keptOut("no debt, height 0", 1, 0, false, 0);
        keptOut("no debt, height 1", 1, 1, false, 0);
        keptOut("a debt, height 0", 1, 0, true, 0);
        keptOut("a debt, height 1", 1, 1, true, 1);
        keptOut("a debt, height 2", 1, 2, true, 1);
        keptOut("a going winder", 0, 1, true, 0);
        keptOut("a chiming winder", 2, 1, true, 0);
        RemontoirClock clock = new RemontoirClock();
        Bring.debtsOf(clock, 3);
        clock.wind(1, 1);
        clock.hire(1, 1, 1);
        Check.same("who is not due is not kept out", clock.winder(0, 5), 0);
    }

    private static void keptOut(String name, int weight, int height, boolean isDebt, int due) {
        RemontoirClock clock = new RemontoirClock();
        Bring.debtsOf(clock, 3);
        clock.hire(weight, 9, 1);
        clock.set(4, 12);
        clock.set(5, 12);
        clock.pass(1);
        if (!isDebt) {
            clock.forgive();
        }
        if (height > 0) {
            clock.wind(1, height);
        }
        Check.same(name, clock.winder(0, 5), due);
        clock.pass(1);
        Check.same(name + ": he comes", clock.winder(0, 4), 1 - due);
    }
}
