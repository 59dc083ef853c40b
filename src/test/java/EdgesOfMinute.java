/** The edges that "A minute" names, part by part. */
final class EdgesOfMinute {
    private static final String MINUTE = "A minute";

    private EdgesOfMinute() {
    }

    static void run() {
        minutesFrom0();
        whoComes();
        heightByTurns();
        rewinding();
        stands();
        chargeBecomesLess();
        slips();
        handsGoOn();
        phrases();
        missedPhrases();
        silenceChimesNone();
        silentByTheTimeBehindPart3();
        owedStrokes();
        forgivenInSilence();
        fifthDebt();
        struck();
        emptyDebtIsGone();
        restOfPace();
        numberOfMinute();
    }

    private static void minutesFrom0() {
        Sentences.noEdge(MINUTE, "When a minute passes, these things happen:");
        Sentences.about(MINUTE, "Minutes are numbered from 0; the number of the minute is that of the next one that"
                + " passes.");
        RemontoirClock clock = new RemontoirClock();
        Check.same("the first one is 0", clock.count(0), 0);
        clock.hire(0, 1, 1);
        clock.pass(1);
        Check.same("then 1", clock.count(0), 1);
        Check.same("who is due in 1 did not come in 0", clock.winder(0, 4), 0);
        clock.pass(1);
        Check.same("but in 1", clock.winder(0, 4), 1);
    }

    private static void cameAre(String name, RemontoirClock clock, int... due) {
        for (int i = 0; i < due.length; i++) {
            Check.same(name + ": " + i + " came", clock.winder(i, 4), due[i]);
        }
    }

    private static void whoComes() {
        Sentences.about(MINUTE, "Of the winders who are due and not kept out, the one who is due since the earliest"
                + " minute comes, of several the one with the lowest number (at most one comes in a minute).");
        RemontoirClock clock = new RemontoirClock();
        clock.hire(0, 1, 6);
        clock.hire(0, 1, 5);
        clock.hire(0, 1, 5);
        clock.pass(5);
        cameAre("none is due", clock, 0, 0, 0);
        clock.pass(1);
        cameAre("the lowest number of those of 5", clock, 0, 1, 0);
        clock.pass(1);
        cameAre("he of 5 ahead of him of 6", clock, 0, 1, 1);
        clock.pass(1);
        cameAre("then he of 6", clock, 1, 1, 1);
        oneInAMinute();
        whoIsKeptOutDoesNotCome();
    }

    private static void oneInAMinute() {
        RemontoirClock clock = new RemontoirClock();
        for (int i = 0; i < 6; i++) {
            clock.hire(2, 1, 1);
        }
        clock.pass(1);
        for (int i = 0; i < 14; i++) {
            clock.pass(1);
            Check.same("one comes in each minute", clock.winder(i % 6, 4), 1 + i / 6);
            Check.same("and one alone", clock.winder((i + 1) % 6, 4), (i + 1) / 6);
        }
    }

    private static void whoIsKeptOutDoesNotCome() {
        RemontoirClock clock = new RemontoirClock();
        Bring.debtsOf(clock, 12);
        clock.set(3, 1);
        clock.wind(1, 100);
        clock.hire(1, 1, 1);
        clock.hire(2, 1, 3);
        clock.pass(3);
        cameAre("the first one is kept out", clock, 0, 0);
        clock.pass(1);
        cameAre("the other one comes, though he is due later", clock, 0, 1);
        clock.forgive();
        clock.pass(1);
        cameAre("without a debt the first one comes", clock, 1, 1);
    }

    private static void heightByTurns() {
        Sentences.about(MINUTE, "The height of his weight becomes greater by his turns, but at most 200; the next"
                + " minute in which he is due is this minute plus his period.");
        for (int weight : new int[] {0, 2}) {
            for (int turns : new int[] {1, 4, 5, 6, 200}) {
                RemontoirClock clock = new RemontoirClock();
                Bring.chimingTo(clock, 195);
                Bring.goingTo(clock, 195);
                int woundBefore = clock.weight(weight, 2);
                clock.hire(weight, turns, 1);
                clock.pass(2);
                Check.same("195 and " + turns, clock.weight(weight, 0), Math.min(200, 195 + turns));
                Check.same("wound by " + turns, clock.weight(weight, 2) - woundBefore, Math.min(5, turns));
            }
        }
        RemontoirClock clock = new RemontoirClock();
        clock.hire(2, 1, 3);
        clock.pass(4);
        Check.same("in 3, so in 6 again", clock.winder(0, 3), 2);
        RemontoirClock late = new RemontoirClock();
        late.set(3, 1);
        late.setHands(299);
        late.hire(1, 1, 4);
        late.pass(5);
        Check.same("kept out in 4: in 5", late.winder(0, 4), 0);
        late.pass(1);
        Check.same("he comes in 5", late.winder(0, 4), 1);
        Check.same("so in 9 again, not in 8", late.winder(0, 3), 3);
    }

    /** How many turns the next minute takes from the going weight. */
    private static int rewound(int charge, int limit, int size, int height) {
        RemontoirClock clock = new RemontoirClock();
        clock.set(0, 30);
        Bring.goingTo(clock, height);
        Bring.chargeTo(clock, charge);
        clock.set(0, size);
        clock.set(1, limit);
        int takenBefore = clock.weight(0, 1);
        int rewindings = clock.count(13);
        clock.pass(1);
        int taken = clock.weight(0, 1) - takenBefore;
        String name = "charge " + charge + " of " + size + ", height " + height;
        Check.same(name + ": height", clock.weight(0, 0), height - taken);
        Check.same(name + ": charge", clock.count(2), Math.max(0, charge + taken - 1));
        Check.same(name + ": one rewinding", clock.count(13) - rewindings, taken > 0 ? 1 : 0);
        return taken;
    }

    private static void rewinding() {
        Sentences.about(MINUTE, "If the charge is at most the charge for rewinding, and less than the size of the"
                + " spring, and the height of the going weight is not 0, the spring is rewound: turn by turn the charge"
                + " becomes 1 more and the height of the going weight 1 less, until the charge is the size of the"
                + " spring or the height is 0.");
        Check.same("charge as told", rewound(5, 5, 10, 100), 5);
        Check.same("charge 1 less", rewound(4, 5, 10, 100), 6);
        Check.same("charge 1 more", rewound(6, 5, 10, 100), 0);
        Check.same("charge 0 of 0", rewound(0, 0, 10, 100), 10);
        Check.same("charge 1 of 0", rewound(1, 0, 10, 100), 0);
        Check.same("charge 20", rewound(20, 20, 30, 100), 10);
        Check.same("charge 21", rewound(21, 20, 30, 100), 0);
        Check.same("less than the size by 1", rewound(9, 20, 10, 100), 1);
        Check.same("not less than the size", rewound(10, 20, 10, 100), 0);
        Check.same("height 0", rewound(5, 5, 10, 0), 0);
        Check.same("height 1", rewound(5, 5, 10, 1), 1);
        Check.same("height 1 too little", rewound(5, 5, 10, 4), 4);
        Check.same("height enough", rewound(5, 5, 10, 5), 5);
        Check.same("height 1 more", rewound(5, 5, 10, 6), 5);
        Check.same("charge 0, height 0", rewound(0, 5, 10, 0), 0);
        RemontoirClock clock = Twins.made(one -> emptyWith(one, 0));
        clock.hire(0, 3, 1);
        clock.pass(2);
        Check.same("who comes in this minute comes ahead of it", clock.weight(0, 0), 0);
        Check.same("so it stood in one minute alone", clock.count(12), 1);
    }

    private static void emptyWith(RemontoirClock clock, int charge) {
        Bring.goingTo(clock, 0);
        Bring.chargeTo(clock, charge);
    }

    private static void stands() {
        Sentences.about(MINUTE, "If the charge is 0, the clock stands in this minute.");
        RemontoirClock clock = Twins.made(one -> emptyWith(one, 1));
        clock.pass(1);
        Check.same("a charge of 1 lets it go on", clock.count(1), 2);
        Check.same("it did not stand", clock.count(12), 0);
        clock.setSnow(20);
        clock.pass(1);
        Check.same("a charge of 0 does not", clock.count(1), 2);
        Check.same("it stood", clock.count(12), 1);
        Check.same("and did not slip", clock.count(11), 0);
        Check.same("no charge below 0", clock.count(2), 0);
        clock.setSnow(0);
        clock.wind(0, 1);
        clock.pass(1);
        Check.same("a turn that is rewound ahead of it lets it go on", clock.count(1), 3);
        Check.same("it did not stand", clock.count(12), 1);
    }

    private static void chargeBecomesLess() {
        Sentences.about(MINUTE, "Otherwise the charge becomes 1 less.");
        RemontoirClock clock = new RemontoirClock();
        clock.pass(1);
        Check.same("if the hands go on", clock.count(2), 9);
        clock.setSnow(20);
        clock.pass(1);
        Check.same("if the pinion slips", clock.count(2), 8);
        emptyWith(clock, 1);
        clock.pass(1);
        Check.same("from 1 to 0", clock.count(2), 0);
    }

    private static int slipsIn1(int grip, int wear, int snow) {
        RemontoirClock clock = new RemontoirClock();
        clock.set(2, 1);
        clock.setSnow(20);
        if (wear > 0) {
            clock.pass(5 * wear);
        }
        Check.same("brought: wear", clock.count(4), wear);
        clock.set(2, grip);
        clock.setSnow(snow);
        clock.setHands(1);
        clock.pass(1);
        int slips = clock.count(11) - 5 * wear;
        Check.same("the hands", clock.count(1), 2 - slips);
        return slips;
    }

    private static void slips() {
        Sentences.about(MINUTE, "Then, if the snow is greater than the grip minus the wear (which may be below 0), the"
                + " pinion slips: the hands stay, the number of slips becomes 1 more, and if that is a multiple of 5"
                + " then, the wear becomes 1 more (but at most 20).");
        Check.same("snow as the grip", slipsIn1(8, 0, 8), 0);
        Check.same("snow above the grip", slipsIn1(8, 0, 9), 1);
        Check.same("snow as the grip minus the wear", slipsIn1(8, 3, 5), 0);
        Check.same("snow above it", slipsIn1(8, 3, 6), 1);
        Check.same("grip minus wear 0, no snow", slipsIn1(2, 2, 0), 0);
        Check.same("grip minus wear 0, snow", slipsIn1(2, 2, 1), 1);
        Check.same("grip minus wear below 0, no snow", slipsIn1(2, 3, 0), 1);
        Check.same("grip minus wear -19, no snow", slipsIn1(1, 20, 0), 1);
        Check.same("grip minus wear 0 at their greatest", slipsIn1(20, 20, 0), 0);
        Check.same("wear 19", slipsIn1(19, 20, 0), 1);
        wearByFive();
    }

    private static void wearByFive() {
        RemontoirClock clock = new RemontoirClock();
        clock.set(2, 1);
        clock.setSnow(20);
        for (int slips = 1; slips <= 106; slips++) {
            clock.pass(1);
            Check.same("wear at " + slips, clock.count(4), Math.min(20, slips / 5));
        }
        clock.mend();
        clock.pass(3);
        Check.same("109 slips", clock.count(4), 0);
        clock.pass(1);
        Check.same("110 slips are a multiple of 5, though the pinion is mended", clock.count(4), 1);
        RemontoirClock between = new RemontoirClock();
        between.setSnow(9);
        between.pass(4);
        between.setSnow(0);
        between.pass(3);
        Check.same("no wear without a slip", between.count(4), 0);
        between.setSnow(8);
        between.pass(1);
        Check.same("a grip that is not worn yet", between.count(11), 4);
        between.setSnow(9);
        between.pass(1);
        between.setSnow(0);
        between.pass(3);
        Check.same("a multiple of 5 that stays wears once", between.count(4), 1);
    }

    private static void handsGoOn() {
        Sentences.about(MINUTE, "If it does not slip, the time becomes 1 more (0 behind 719): the hands go on.");
        for (int time : new int[] {0, 1, 58, 59, 718}) {
            RemontoirClock clock = new RemontoirClock();
            clock.setHands(time);
            clock.pass(1);
            Check.same("behind " + time, clock.count(1), time + 1);
        }
        RemontoirClock clock = new RemontoirClock();
        clock.setHands(719);
        clock.pass(1);
        Check.same("behind 719", clock.count(1), 0);
        clock.pass(1);
        Check.same("behind 0", clock.count(1), 1);
    }

    private static void phrases() {
        Sentences.about(MINUTE, "If the hands went on in this minute to a time that is a multiple of 15, and the clock"
                + " is not silent, there are phrases to chime: 1, 2 or 3 for the first, second or third quarter of an"
                + " hour, 4 for the full hour.");
        for (int time = 0; time < 720; time++) {
            RemontoirClock clock = new RemontoirClock();
            Bring.minuteTo(clock, time);
            int due = time % 15 != 0 ? 0 : time % 60 == 0 ? 4 : time % 60 / 15;
            Check.same("phrases at " + time, clock.count(9), due);
            Check.same("missed at " + time, clock.count(10), 0);
        }
        for (int time = 0; time < 720; time += 15) {
            Check.same("hands that stay at " + time + ", slipping", phrasesWithout(time, 20, 10), 0);
            Check.same("hands that stay at " + time + ", standing", phrasesWithout(time, 0, 0), 0);
        }
    }

    private static int phrasesWithout(int time, int snow, int charge) {
        RemontoirClock clock = Twins.made(one -> emptyWith(one, charge));
        clock.setSnow(snow);
        clock.setHands(time);
        clock.pass(1);
        Check.same("the hands stay", clock.count(1), time);
        Check.same("nothing is owed", clock.count(6) + clock.count(7) + clock.count(8), 0);
        return clock.count(9) + clock.count(10);
    }

    private static void missedPhrases() {
        Sentences.about(MINUTE, "One by one, each takes 2 turns of the chiming weight; if its height is less than 2,"
                + " this phrase and those behind it are missed.");
        for (int height = 0; height <= 9; height++) {
            for (int phrases = 1; phrases <= 4; phrases++) {
                RemontoirClock clock = new RemontoirClock();
                Bring.chimingTo(clock, height);
                int before = clock.count(9);
                Bring.minuteTo(clock, 15 * phrases);
                int chimed = height >= 2 * phrases ? phrases : height / 2;
                String name = phrases + " phrases at " + height;
                Check.same(name + ": chimed", clock.count(9) - before, chimed);
                Check.same(name + ": missed", clock.count(10), phrases - chimed);
                Check.same(name + ": height", clock.weight(2, 0), height - 2 * chimed);
            }
        }
    }

    private static void silenceChimesNone() {
        Sentences.about(MINUTE, "(If the clock is silent, none is chimed or missed.");
        for (int height : new int[] {200, 1}) {
            for (int time = 0; time < 60; time += 15) {
                RemontoirClock clock = new RemontoirClock();
                Bring.chimingTo(clock, height);
                int before = clock.count(9);
                clock.set(4, 12);
                clock.set(5, 1);
                Bring.minuteTo(clock, time);
                Check.same("chimed at " + time, clock.count(9) - before, 0);
                Check.same("missed at " + time, clock.count(10), 0);
            }
        }
    }

    private static void silentByTheTimeBehindPart3() {
        Sentences.about(MINUTE, "In the parts 4 to 6 the clock is silent by the time that the hands show behind part"
                + " 3.)");
        RemontoirClock clock = new RemontoirClock();
        clock.set(3, 1);
        clock.set(4, 3);
        clock.set(5, 1);
        Bring.minuteTo(clock, 120);
        clock.setHands(179);
        Check.same("not silent at 179", clock.count(16), 0);
        int chimed = clock.count(9);
        Check.same("the minute to 180: no stroke", clock.pass(1), 0);
        Check.same("no phrase", clock.count(9) - chimed, 0);
        Check.same("its strokes are forgiven", clock.count(8), 3);
        clock.setHands(239);
        Check.same("silent at 239", clock.count(16), 1);
        Check.same("the minute to 240: a stroke", clock.pass(1), 1);
        Check.same("four phrases", clock.count(9) - chimed, 4);
        Check.same("its strokes are owed", clock.count(6), 4);
        Check.same("none of them is forgiven", clock.count(8), 3);
    }

    private static void owedStrokes() {
        Sentences.about(MINUTE, "If the hands went on in this minute to a time that is a multiple of 60, strokes are"
                + " owed, as many as the hour of this time.");
        for (int time = 0; time < 720; time++) {
            RemontoirClock clock = new RemontoirClock();
            Bring.minuteTo(clock, time);
            int due = time % 60 != 0 ? 0 : time == 0 ? 12 : time / 60;
            Check.same("strokes at " + time, clock.count(6) + clock.count(7), due);
            Check.same("forgiven at " + time, clock.count(8), 0);
        }
    }

    private static void forgivenInSilence() {
        Sentences.about(MINUTE, "If the clock is silent, they are forgiven at once.");
        RemontoirClock clock = new RemontoirClock();
        Bring.debtsOf(clock, 5, 6, 7, 8);
        clock.set(4, 9);
        clock.set(5, 2);
        Bring.minuteTo(clock, 540);
        Check.same("forgiven in the first hour of silence", clock.count(8), 9);
        Check.same("no debt is gone for that", clock.debt(0, 0), 5);
        Check.same("owed", clock.count(6), 5 + 6 + 7 + 8);
        Bring.minuteTo(clock, 600);
        Check.same("forgiven in the last one", clock.count(8), 9 + 10);
        Bring.minuteTo(clock, 660);
        Check.same("not behind it: then the first debt is", clock.count(8), 9 + 10 + 5);
        Check.same("and the new one is owed", clock.debt(3, 1), 11);
    }

    private static void fifthDebt() {
        Sentences.about(MINUTE, "Otherwise, if there are 4 debts, what is left of the first one is forgiven, and it is"
                + " gone; then the new debt comes behind the others.");
        RemontoirClock clock = new RemontoirClock();
        Bring.debtsOf(clock, 12, 2, 3);
        Bring.minuteTo(clock, 240);
        Check.same("with 3 debts none is forgiven", clock.count(8), 0);
        Check.same("there are 4", clock.count(5), 4);
        clock.set(3, 5);
        clock.wind(1, 5);
        clock.setHands(1);
        Check.same("five strokes of the first", clock.pass(1), 5);
        clock.wind(1, 4);
        int struck = clock.count(7);
        Bring.minuteTo(clock, 300);
        Check.same("with 4 debts what is left of the first is", clock.count(8), 12 - 5);
        Check.same("three are left, for one more is paid", clock.count(5), 3);
        Check.same("it is gone ahead of the striking: two strokes of the next one", clock.count(7) - struck, 2);
        Check.same("then 3 is the first", clock.debt(0, 0), 3);
        Check.same("the new one is the last", clock.debt(2, 0), 5);
        Check.same("and whole", clock.debt(2, 1), 5);
    }

    private static void struck() {
        Sentences.about(MINUTE, "If there is a debt, and the clock is not silent, strokes of the first debt are struck:"
                + " as many as the pace tells, but not more than are left of it, and not more than the height of the"
                + " striking weight, which becomes less by as many.");
        for (int left : new int[] {1, 5, 6, 7, 12}) {
            for (int pace : new int[] {1, 5, 6, 7, 12}) {
                for (int height : new int[] {0, 1, 5, 6, 7, 13}) {
                    struckOf(left, pace, height);
                }
            }
        }
        Check.same("without a debt", new RemontoirClock().pass(1), 0);
        RemontoirClock silent = new RemontoirClock();
        silent.set(3, 1);
        Bring.minuteTo(silent, 0);
        silent.set(4, 12);
        Check.same("silent", silent.pass(2), 0);
        silent.set(4, 0);
        Check.same("no longer silent", silent.pass(2), 2);
    }

    private static void struckOf(int left, int pace, int height) {
        String name = left + " left, pace " + pace + ", height " + height;
        RemontoirClock clock = new RemontoirClock();
        Bring.debtsOf(clock, left, 2);
        clock.set(3, pace);
        if (height > 0) {
            clock.wind(1, height);
        }
        clock.setHands(1);
        int due = Math.min(left, Math.min(pace, height));
        Check.same(name + ": struck", clock.pass(1), due);
        Check.same(name + ": height", clock.weight(1, 0), height - due);
        Check.same(name + ": owed", clock.count(6), left + 2 - due);
        Check.same(name + ": debts", clock.count(5), due == left ? 1 : 2);
    }

    private static void emptyDebtIsGone() {
        Sentences.about(MINUTE, "A debt of which nothing is left is gone.");
        RemontoirClock clock = new RemontoirClock();
        Bring.debtsOf(clock, 12, 3);
        clock.wind(1, 200);
        clock.set(3, 11);
        clock.setHands(1);
        clock.pass(1);
        Check.same("one stroke is left", clock.debt(0, 1), 1);
        Check.same("two debts", clock.count(5), 2);
        clock.pass(1);
        Check.same("none is left", clock.count(5), 1);
        Check.same("the other one is the first", clock.debt(0, 0), 3);
        clock.pass(1);
        Check.same("it is gone too", clock.count(5), 0);
        RemontoirClock down = new RemontoirClock();
        Bring.debtsOf(down, 1);
        down.pass(3);
        Check.same("one of which something is left stays", down.count(5), 1);
    }

    private static void restOfPace() {
        Sentences.about(MINUTE, "(What is left of the pace is not used for the next debt in this minute.)");
        RemontoirClock clock = new RemontoirClock();
        Bring.debtsOf(clock, 2, 5);
        clock.wind(1, 200);
        clock.set(3, 12);
        clock.setHands(1);
        Check.same("two of the first", clock.pass(1), 2);
        Check.same("none of the next", clock.debt(0, 1), 5);
        Check.same("five in the minute behind it", clock.pass(1), 5);
    }

    private static void numberOfMinute() {
        Sentences.about(MINUTE, "The number of the minute becomes 1 more.");
        RemontoirClock clock = new RemontoirClock();
        clock.setHands(719);
        clock.pass(1);
        Check.same("0 behind 719", clock.count(0), 1);
        clock.setSnow(20);
        clock.pass(1);
        Check.same("slipping", clock.count(0), 2);
        emptyWith(clock, 0);
        int before = clock.count(0);
        clock.pass(1);
        Check.same("standing", clock.count(0), before + 1);
        clock.pass(720);
        Check.same("no end at 720", clock.count(0), before + 721);
    }
}
