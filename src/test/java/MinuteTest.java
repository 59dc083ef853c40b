/** The seven parts of a minute, and promise 10: pass. */
public final class MinuteTest {
    public static void main(String[] args) {
        onlyOneWinderComes();
        earliestDueComesFirst();
        strikersAreKeptOut();
        strikerComesToAWeightThatIsDown();
        rewind();
        rewindWithLittleLeft();
        rewindNeedsRoom();
        stand();
        slip();
        wearEndsAt20();
        chime();
        chimesAreMissed();
        owe();
        fifthDebtDropsTheFirst();
        silence();
        silenceBeginsWithTheHour();
        strikeByPace();
        strikeWithoutWeight();
        debtsArePaidWhileTheClockStands();
        passRefuses();
        accountsAddUp();
        Check.end();
    }

    private static void onlyOneWinderComes() {
        RemontoirClock clock = new RemontoirClock();
        clock.hire(2, 3, 5);
        clock.hire(0, 4, 5);
        clock.pass(5);
        Check.same("none came before the minute 5", clock.winder(0, 4) + clock.winder(1, 4), 0);
        clock.pass(1);
        Check.same("the lower number came", clock.winder(0, 4), 1);
        Check.same("the higher one did not", clock.winder(1, 4), 0);
        Check.same("the lower one is due again", clock.winder(0, 3), 4);
        clock.pass(1);
        Check.same("the higher one came in the next minute", clock.winder(1, 4), 1);
        Check.same("and is due a period later", clock.winder(1, 3), 4);
    }

    private static void earliestDueComesFirst() {
        RemontoirClock clock = new RemontoirClock();
        clock.hire(0, 1, 4);
        clock.hire(0, 1, 4);
        clock.hire(0, 1, 4);
        clock.hire(0, 1, 1);
        clock.pass(5);
        Check.same("he of minute 1 came in 1, 2 and 3; behind that he of 4 is due as long", clock.winder(3, 4), 3);
        Check.same("the lowest number of 4", clock.winder(0, 4), 1);
        clock.pass(3);
        Check.same("1 of 4", clock.winder(1, 4), 1);
        Check.same("2 of 4", clock.winder(2, 4), 1);
        Check.same("then 3 of 4", clock.winder(3, 4), 4);
        Check.same("who waited is due a period behind his coming", clock.winder(2, 3), 2);
    }

    private static void strikersAreKeptOut() {
        RemontoirClock clock = new RemontoirClock();
        clock.set(3, 1);
        clock.setHands(178);
        clock.hire(1, 9, 2);
        clock.pass(2);
        Check.same("three are owed, one is struck", clock.count(6), 2);
        Check.same("he is due and kept out", clock.winder(0, 5), 1);
        Check.same("why: all are kept out", clock.why(2), 3);
        clock.pass(2);
        Check.same("the debt is paid", clock.count(5), 0);
        Check.same("he has not come", clock.winder(0, 4), 0);
        Check.same("he is no longer kept out", clock.winder(0, 5), 0);
        clock.pass(1);
        Check.same("he came", clock.winder(0, 4), 1);
        Check.same("height", clock.weight(1, 0), 200);
        Check.same("wound", clock.weight(1, 2), 3);
    }

    private static void strikerComesToAWeightThatIsDown() {
        RemontoirClock clock = clockWithStrikingWeightDown();
        clock.hire(1, 7, 1);
        clock.setHands(718);
        clock.pass(1);
        Check.same("not due yet", clock.winder(0, 4), 0);
        clock.dismiss(0);
        clock.set(3, 2);
        clock.pass(1);
        Check.same("twelve owed behind " + clock.debt(0, 1), clock.count(5), 2);
        clock.hire(1, 7, 1);
        clock.pass(1);
        Check.same("he is due, and the weight is down: not kept out", clock.winder(0, 5), 0);
        clock.pass(1);
        Check.same("he came in spite of the debt", clock.winder(0, 4), 1);
        Check.same("seven turns less two strokes", clock.weight(1, 0), 5);
        Check.same("now he is kept out", clock.winder(0, 5) + 10 * clock.winder(0, 3), 10 * 0 + 1);
    }

    /** Behind this a debt of some strokes is left, and the height is 0. */
    private static RemontoirClock clockWithStrikingWeightDown() {
        RemontoirClock clock = new RemontoirClock();
        clock.set(3, 12);
        for (int i = 0; i < 17; i++) {
            clock.setHands(719);
            clock.pass(1);
        }
        Check.same("16 * 12 + 8 strokes", clock.count(7), 200);
        Check.same("the striking weight is down", clock.weight(1, 0), 0);
        Check.same("four are left", clock.count(6), 4);
        return clock;
    }

    private static void rewind() {
        RemontoirClock clock = new RemontoirClock();
        clock.pass(8);
        Check.same("charge 10 less 8", clock.count(2), 2);
        Check.same("not rewound yet", clock.count(13), 0);
        clock.pass(1);
        Check.same("rewound at 2, then 1 less", clock.count(2), 9);
        Check.same("once", clock.count(13), 1);
        Check.same("by eight turns", clock.weight(0, 1), 8);
        clock.set(1, 9);
        clock.pass(1);
        Check.same("rewound at 9", clock.count(13), 2);
        Check.same("by one turn", clock.weight(0, 0), 191);
    }

    private static void rewindWithLittleLeft() {
        RemontoirClock clock = new RemontoirClock();
        clock.set(0, 30);
        clock.set(1, 0);
        clock.pass(190);
        Check.same("turns left", clock.weight(0, 0), 20);
        Check.same("charge", clock.count(2), 0);
        Check.same("six times by 30", clock.count(13), 6);
        clock.pass(1);
        Check.same("all that is left", clock.weight(0, 0), 0);
        Check.same("charge behind it", clock.count(2), 19);
        Check.same("rewindings", clock.count(13), 7);
        clock.pass(19);
        Check.same("no rewinding without height", clock.count(13), 7);
    }

    private static void rewindNeedsRoom() {
        RemontoirClock clock = new RemontoirClock();
        clock.set(1, 20);
        clock.pass(1);
        Check.same("a full spring is not rewound", clock.count(13), 0);
        Check.same("charge", clock.count(2), 9);
        clock.pass(1);
        Check.same("one with room is", clock.count(13), 1);
    }

    private static void stand() {
        RemontoirClock clock = new RemontoirClock();
        clock.setSnow(0);
        clock.pass(210);
        Check.same("it went on in 210 minutes", clock.count(1), 210);
        Check.same("no stand yet", clock.count(12), 0);
        clock.setSnow(20);
        clock.pass(3);
        Check.same("stood", clock.count(12), 3);
        Check.same("the hands stay", clock.count(1), 210);
        Check.same("who stands does not slip", clock.count(11), 0);
        Check.same("behind", clock.count(15), 3);
    }

    private static void slip() {
        RemontoirClock clock = new RemontoirClock();
        clock.setSnow(8);
        clock.pass(1);
        Check.same("snow as the grip holds", clock.count(11), 0);
        clock.setSnow(9);
        clock.pass(4);
        Check.same("snow above the grip slips", clock.count(11), 4);
        Check.same("the hands stay", clock.count(1), 1);
        Check.same("the charge goes", clock.count(2), 5);
        Check.same("no wear at four", clock.count(4), 0);
        clock.setSnow(8);
        clock.pass(1);
        Check.same("the grip still holds", clock.count(11), 4);
        clock.setSnow(9);
        clock.pass(1);
        Check.same("wear at five", clock.count(4), 1);
        clock.setSnow(8);
        clock.pass(1);
        Check.same("wear takes of the grip", clock.count(11), 6);
    }

    private static void wearEndsAt20() {
        RemontoirClock clock = new RemontoirClock();
        clock.set(2, 1);
        clock.setSnow(20);
        clock.pass(99);
        Check.same("wear at 99", clock.count(4), 19);
        clock.pass(1);
        Check.same("wear at 100", clock.count(4), 20);
        clock.pass(20);
        Check.same("wear at 120", clock.count(4), 20);
        clock.setSnow(0);
        clock.pass(5);
        Check.same("no snow is more than a grip below 0", clock.count(11), 125);
    }

    private static void chime() {
        int[] times = {14, 29, 44, 59, 719, 15, 0};
        int[] phrases = {1, 2, 3, 4, 4, 0, 0};
        for (int i = 0; i < times.length; i++) {
            RemontoirClock clock = new RemontoirClock();
            clock.setHands(times[i]);
            clock.pass(1);
            Check.same("chimed behind " + times[i], clock.count(9), phrases[i]);
            Check.same("turns behind " + times[i], clock.weight(2, 1), 2 * phrases[i]);
            Check.same("missed behind " + times[i], clock.count(10), 0);
        }
        RemontoirClock slips = new RemontoirClock();
        slips.setHands(15);
        slips.setSnow(20);
        slips.pass(1);
        Check.same("hands that stay at a quarter do not chime", slips.count(9), 0);
    }

    private static void chimesAreMissed() {
        RemontoirClock clock = new RemontoirClock();
        for (int i = 0; i < 24; i++) {
            clock.setHands(59);
            clock.pass(1);
        }
        clock.setHands(44);
        clock.pass(1);
        Check.same("height behind 99 phrases", clock.weight(2, 0), 2);
        clock.setHands(44);
        clock.pass(1);
        Check.same("one more is chimed", clock.count(9), 100);
        Check.same("two are missed", clock.count(10), 2);
        clock.wind(2, 1);
        clock.setHands(14);
        clock.pass(1);
        Check.same("one turn is too little", clock.weight(2, 0), 1);
        Check.same("missed", clock.count(10), 3);
        clock.wind(2, 4);
        clock.setHands(719);
        clock.pass(1);
        Check.same("two of four", clock.count(9), 102);
        Check.same("the others are missed", clock.count(10), 5);
        Check.same("the odd turn stays", clock.weight(2, 0), 1);
    }

    private static void owe() {
        RemontoirClock clock = new RemontoirClock();
        clock.set(3, 1);
        clock.setHands(718);
        clock.pass(1);
        Check.same("nothing at 719", clock.count(5), 0);
        clock.pass(1);
        Check.same("time", clock.count(1), 0);
        Check.same("hour 12 at 0", clock.debt(0, 0), 12);
        Check.same("one is struck in this minute", clock.debt(0, 1), 11);
        clock.setHands(659);
        clock.pass(1);
        Check.same("hour 11", clock.debt(1, 0), 11);
        Check.same("not begun", clock.debt(1, 1), 11);
        Check.same("owed", clock.count(6), 21);
    }

    private static void fifthDebtDropsTheFirst() {
        RemontoirClock clock = new RemontoirClock();
        clock.set(3, 1);
        int[] times = {719, 659, 599, 539, 479};
        for (int i = 0; i < 4; i++) {
            clock.setHands(times[i]);
            clock.pass(1);
        }
        Check.same("four debts", clock.count(5), 4);
        Check.same("left of the first", clock.debt(0, 1), 8);
        clock.setHands(times[4]);
        clock.pass(1);
        Check.same("still four", clock.count(5), 4);
        Check.same("forgiven", clock.count(8), 8);
        Check.same("first now", clock.debt(0, 0), 11);
        Check.same("struck of the first now", clock.debt(0, 1), 10);
        Check.same("the last", clock.debt(3, 0), 8);
        Check.same("the last whole", clock.debt(3, 1), 8);
    }

    private static void silence() {
        RemontoirClock clock = new RemontoirClock();
        clock.set(4, 11);
        clock.set(5, 3);
        int[] silentAt = {1, 1, 0, 0, 0, 0, 0, 0, 0, 0, 0, 1};
        for (int hour = 0; hour < 12; hour++) {
            clock.setHands(60 * hour);
            Check.same("silent from " + hour, clock.count(16), silentAt[hour]);
            clock.setHands(60 * hour + 59);
            Check.same("silent to " + hour, clock.count(16), silentAt[hour]);
        }
        clock.set(5, 12);
        clock.setHands(300);
        Check.same("twelve hours are all", clock.count(16), 1);
        clock.set(4, 0);
        Check.same("0: no silence", clock.count(16), 0);
        clock.set(4, 12);
        clock.set(5, 1);
        clock.setHands(0);
        Check.same("12 is the hour of 0", clock.count(16), 1);
        clock.setHands(60);
        Check.same("1 is not", clock.count(16), 0);
    }

    private static void silenceBeginsWithTheHour() {
        RemontoirClock clock = new RemontoirClock();
        clock.set(3, 1);
        clock.set(4, 3);
        clock.set(5, 1);
        clock.setHands(119);
        clock.pass(1);
        Check.same("two, one struck", clock.count(6), 1);
        clock.setHands(179);
        clock.pass(1);
        Check.same("three are forgiven at once", clock.count(8), 3);
        Check.same("no stroke of the older debt in silence", clock.count(6), 1);
        Check.same("no chimes", clock.count(9), 4);
        Check.same("none is missed", clock.count(10), 0);
        clock.pass(59);
        Check.same("all the hour", clock.count(6), 1);
        Check.same("no quarters", clock.count(9), 4);
        clock.pass(1);
        Check.same("the older debt is paid behind the silence", clock.debt(0, 0), 4);
        Check.same("chimes again", clock.count(9), 8);
    }

    private static void strikeByPace() {
        RemontoirClock clock = new RemontoirClock();
        clock.set(3, 5);
        clock.setHands(719);
        Check.same("pace", clock.pass(1), 5);
        clock.setHands(59);
        Check.same("pace, of the first debt alone", clock.pass(1), 5);
        Check.same("two debts", clock.count(5), 2);
        Check.same("what is left of the pace is not used", clock.pass(1), 2);
        Check.same("one debt", clock.count(5), 1);
        Check.same("the next one", clock.pass(3), 1);
        Check.same("struck so far", clock.count(7), 13);
        Check.same("turns", clock.weight(1, 1), 13);
    }

    private static void strikeWithoutWeight() {
        RemontoirClock clock = clockWithStrikingWeightDown();
        Check.same("no stroke without weight", clock.pass(3), 0);
        Check.same("why", clock.why(1), 3);
        clock.wind(1, 3);
        Check.same("three", clock.pass(1), 3);
        Check.same("one left", clock.debt(0, 1), 1);
        Check.same("the hour stays", clock.debt(0, 0), 12);
    }

    private static void debtsArePaidWhileTheClockStands() {
        RemontoirClock clock = new RemontoirClock();
        clock.set(3, 1);
        clock.pass(209);
        clock.setHands(719);
        clock.pass(1);
        Check.same("owed", clock.count(6), 11);
        Check.same("struck while it stands", clock.pass(4), 4);
        Check.same("it stood", clock.count(12), 4);
        Check.same("left", clock.debt(0, 1), 7);
    }

    private static void passRefuses() {
        RemontoirClock clock = new RemontoirClock();
        Check.refuses("pass(0)", clock, Check.NO_ARGUMENT, () -> clock.pass(0));
        Check.refuses("pass(-1)", clock, Check.NO_ARGUMENT, () -> clock.pass(-1));
        Check.refuses("pass(721)", clock, Check.NO_ARGUMENT, () -> clock.pass(721));
        for (int i = 0; i < 27; i++) {
            clock.pass(720);
        }
        clock.pass(559);
        Check.same("minute", clock.count(0), 19999);
        Check.refuses("pass(2)", clock, Check.NO_STATE, () -> clock.pass(2));
        Check.refuses("pass(721) at the end", clock, Check.NO_ARGUMENT, () -> clock.pass(721));
        clock.pass(1);
        Check.same("minute", clock.count(0), 20000);
        Check.refuses("pass(1)", clock, Check.NO_STATE, () -> clock.pass(1));
        Check.refuses("pass(max)", clock, Check.NO_ARGUMENT, () -> clock.pass(Integer.MAX_VALUE));
        Check.same("what would be knows no end", clock.ifPassed(720, 9), clock.count(12) + 720);
        clock.undo();
        Check.same("undone as one call", clock.count(0), 19999);
    }

    private static void accountsAddUp() {
        RemontoirClock clock = new RemontoirClock();
        clock.hire(0, 55, 70);
        clock.hire(1, 20, 133);
        clock.hire(2, 13, 61);
        clock.set(4, 9);
        clock.set(3, 1);
        int owedInAll = 0;
        for (int i = 0; i < 20; i++) {
            clock.setSnow(i % 7 + 4);
            clock.pass(311);
        }
        for (int i = 0; i < 3; i++) {
            Check.same("turns of " + i, 200 + clock.weight(i, 2) - clock.weight(i, 1), clock.weight(i, 0));
        }
        Check.same("strokes and turns", clock.count(7), clock.weight(1, 1));
        Check.same("phrases and turns", 2 * clock.count(9), clock.weight(2, 1));
        Check.same("charge", 10 + clock.weight(0, 1) - clock.count(2), clock.count(0) - clock.count(12));
        Check.same("hands", clock.count(15), (clock.count(11) + clock.count(12)) % 720);
        int hours = (clock.count(0) - clock.count(11) - clock.count(12)) / 60;
        for (int i = 1; i <= hours; i++) {
            owedInAll += (i - 1) % 12 + 1;
        }
        Check.same("strokes", clock.count(6) + clock.count(7) + clock.count(8), owedInAll);
    }
}
