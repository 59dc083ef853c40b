/** A tower clock, as the document ../shared/DOC.md promises it. */
public final class RemontoirClock {
    public static final int NONE = -1;

    private static final int GOING = 0;
    private static final int STRIKING = 1;
    private static final int CHIMING = 2;
    private static final int WEIGHTS = 3;
    private static final int MOST_HEIGHT = 200;

    private static final int SPRING_SIZE = 0;
    private static final int REWIND_CHARGE = 1;
    private static final int GRIP = 2;
    private static final int PACE = 3;
    private static final int SILENCE_FIRST = 4;
    private static final int SILENCE_HOURS = 5;
    private static final int SETTINGS = 6;
    private static final int[] LEAST_VALUE = {2, 0, 1, 1, 0, 1};
    private static final int[] MOST_VALUE = {30, 20, 20, 12, 12, 12};
    private static final int[] FIRST_VALUE = {10, 2, 8, 6, 0, 6};

    private static final int MOST_SNOW = 20;
    private static final int MOST_WEAR = 20;
    private static final int SLIPS_FOR_WEAR = 5;

    private static final int HOURS = 12;
    private static final int DIAL = 720;
    private static final int IN_HOUR = 60;
    private static final int IN_QUARTER = 15;
    private static final int TURNS_OF_PHRASE = 2;

    private static final int MOST_DEBTS = 4;
    private static final int MOST_WINDERS = 6;
    private static final int MOST_PERIOD = 720;
    private static final int MOST_SAVED = 6;
    private static final int MOST_SIGNS = 60;
    private static final int LEAST_CODE = 33;
    private static final int MOST_CODE = 126;

    private static final int MOST_MINUTES = 720;
    private static final int LAST_MINUTE = 20000;
    private static final int FAR = 1500;

    private static final int NUMBERS = 18;
    private static final int OUTCOMES = 10;
    private static final int REASONS = 3;
    private static final int WEIGHT_PROPERTIES = 3;
    private static final int WINDER_PROPERTIES = 6;
    private static final int DEBT_PROPERTIES = 2;

    private static final long FIRST_HASH = 2311L;
    private static final int DIGEST_MINUTES = 60;
    private static final int DIGEST_TURNS_MINUTES = 240;
    private static final int DOUBLE_BIAS = 1023;
    private static final long FRACTION_STEPS = 4503599627370496L;

    private final State now;
    /** All that would be is tried out here, so that no call makes a new state. */
    private final State trial;
    private final History history;
    private final Text text;
    /** The going weight's rounds in the next minutes, for leastTurns alone. */
    private final int[] goingRounds;

    public RemontoirClock() {
        now = new State();
        trial = new State();
        history = new History();
        text = new Text();
        goingRounds = new int[MOST_MINUTES];
    }

    // ---- by hand

    public int wind(int weight, int turns) throws IndexOutOfBoundsException, IllegalArgumentException {
        requireWeight(weight);
        requireRange(turns, 1, MOST_HEIGHT);
        history.keep(now);
        return now.weights.raise(weight, turns);
    }

    public int set(int setting, int value) throws IndexOutOfBoundsException, IllegalArgumentException {
        requireSetting(setting);
        requireRange(value, LEAST_VALUE[setting], MOST_VALUE[setting]);
        history.keep(now);
        int previous = now.settings[setting];
        now.settings[setting] = value;
        now.charge = Math.min(now.charge, now.settings[SPRING_SIZE]);
        return previous;
    }

    public int setSnow(int snow) throws IllegalArgumentException {
        requireRange(snow, 0, MOST_SNOW);
        history.keep(now);
        int previous = now.snow;
        now.snow = snow;
        return previous;
    }

    public int setHands(int time) throws IllegalArgumentException {
        requireRange(time, 0, DIAL - 1);
        history.keep(now);
        int previous = now.time;
        now.time = time;
        return previous;
    }

    public int mend() {
        history.keep(now);
        int previous = now.wear;
        now.wear = 0;
        return previous;
    }

    public int forgive() {
        history.keep(now);
        int strokes = now.debts.owed();
        now.debts.size = 0;
        now.forgiven += strokes;
        return strokes;
    }

    // ---- winders

    public int hire(int weight, int turns, int period)
            throws IndexOutOfBoundsException, IllegalArgumentException, IllegalStateException {
        requireWeight(weight);
        requireRange(turns, 1, MOST_HEIGHT);
        requireRange(period, 1, MOST_PERIOD);
        if (now.winders.size >= MOST_WINDERS) {
            throw new IllegalStateException("there are 6 winders");
        }
        history.keep(now);
        now.winders.add(weight, turns, period, now.minute + period);
        return now.winders.size - 1;
    }

    public int dismiss(int winder) throws IndexOutOfBoundsException {
        requireWinder(winder);
        history.keep(now);
        now.winders.remove(winder);
        return now.winders.size;
    }

    public int pass(int minutes) throws IllegalArgumentException, IllegalStateException {
        requireRange(minutes, 1, MOST_MINUTES);
        if (now.minute + minutes > LAST_MINUTE) {
            throw new IllegalStateException("the minutes end at 20000");
        }
        history.keep(now);
        int struckBefore = now.struck;
        now.passMinutes(minutes);
        return now.struck - struckBefore;
    }

    // ---- texts

    public int append(int code) throws IllegalArgumentException, IllegalStateException {
        requireRange(code, LEAST_CODE, MOST_CODE);
        if (text.length >= MOST_SIGNS) {
            throw new IllegalStateException("the buffer has 60 characters");
        }
        text.add((char) code);
        return text.length;
    }

    public int clearBuffer() {
        int previous = text.length;
        text.length = 0;
        return previous;
    }

    public int firstError() {
        return text.readToError();
    }

    public int load() throws IllegalArgumentException, IllegalStateException {
        if (!text.isListOfRounds()) {
            throw new IllegalArgumentException("the buffer is not a complete list of rounds");
        }
        if (text.separators() >= MOST_WINDERS) {
            throw new IllegalStateException("there are more than 6 rounds");
        }
        history.keep(now);
        text.hireInto(now.winders, now.minute);
        text.length = 0;
        return now.winders.size;
    }

    public int undo() throws IllegalStateException {
        if (history.size == 0) {
            throw new IllegalStateException("there is no saved state");
        }
        history.giveBack(now);
        return history.size;
    }

    // ---- what there is

    public int weight(int weight, int what) throws IndexOutOfBoundsException, IllegalArgumentException {
        requireWeight(weight);
        switch (what) {
            case 0:
                return now.weights.height[weight];
            case 1:
                return now.weights.taken[weight];
            case 2:
                return now.weights.wound[weight];
            default:
                throw new IllegalArgumentException("no such property");
        }
    }

    public int winder(int winder, int what) throws IndexOutOfBoundsException, IllegalArgumentException {
        requireWinder(winder);
        Winders winders = now.winders;
        switch (what) {
            case 0:
                return winders.weightOf[winder];
            case 1:
                return winders.turns[winder];
            case 2:
                return winders.period[winder];
            case 3:
                return Math.max(0, winders.dueFrom[winder] - now.minute);
            case 4:
                return winders.came[winder];
            case 5:
                return now.isDueAndKeptOut(winder) ? 1 : 0;
            default:
                throw new IllegalArgumentException("no such property");
        }
    }

    public int debt(int debt, int what) throws IndexOutOfBoundsException, IllegalArgumentException {
        if (debt < 0 || debt >= now.debts.size) {
            throw new IndexOutOfBoundsException("no such debt");
        }
        switch (what) {
            case 0:
                return now.debts.hour[debt];
            case 1:
                return now.debts.left[debt];
            default:
                throw new IllegalArgumentException("no such property");
        }
    }

    public int count(int what) throws IllegalArgumentException {
        switch (what) {
            case 0:
                return now.minute;
            case 1:
                return now.time;
            case 2:
                return now.charge;
            case 3:
                return now.snow;
            case 4:
                return now.wear;
            case 5:
                return now.debts.size;
            case 6:
                return now.debts.owed();
            case 7:
                return now.struck;
            case 8:
                return now.forgiven;
            case 9:
                return now.chimed;
            case 10:
                return now.missed;
            case 11:
                return now.slips;
            case 12:
                return now.stood;
            case 13:
                return now.rewindings;
            case 14:
                return now.winders.size;
            case 15:
                return Math.floorMod(now.minute - now.time, DIAL);
            case 16:
                return now.isSilent() ? 1 : 0;
            case 17:
                return history.size;
            default:
                throw new IllegalArgumentException("no such number");
        }
    }

    public int setting(int setting) throws IndexOutOfBoundsException {
        requireSetting(setting);
        return now.settings[setting];
    }

    // ---- what would be; nothing is changed, and the limit of 20000 minutes does not matter

    public int why(int what) throws IllegalArgumentException {
        requireRange(what, 0, REASONS - 1);
        trial.copyFrom(now);
        switch (what) {
            case 0:
                return trial.reasonNotToGoOn();
            case 1:
                return trial.reasonNotToStrike();
            default:
                return trial.reasonNotToCome();
        }
    }

    public int ifPassed(int minutes, int what) throws IllegalArgumentException {
        requireRange(minutes, 1, MOST_MINUTES);
        requireRange(what, 0, OUTCOMES - 1);
        trial.copyFrom(now);
        trial.passMinutes(minutes);
        return trial.outcome(what);
    }

    public int standsIn() {
        trial.copyFrom(now);
        for (int minutes = 0; minutes <= FAR; minutes++) {
            trial.passMinute();
            if (trial.stood > now.stood) {
                return minutes;
            }
        }
        return NONE;
    }

    public int paidIn() {
        trial.copyFrom(now);
        for (int minutes = 0; minutes <= MOST_MINUTES; minutes++) {
            if (trial.debts.size == 0) {
                return minutes;
            }
            trial.passMinute();
        }
        return NONE;
    }

    public int leastTurns(int minutes) throws IllegalArgumentException {
        requireRange(minutes, 1, MOST_MINUTES);
        int height = now.weights.height[GOING];
        int atHand = now.charge + height + noteGoingRounds(minutes);
        // Each minute takes 1 of the charge, so that fewer turns than these are never enough.
        // More of them are no sure thing: a weight that is full wastes a round. So all are tried.
        int first = Math.max(0, minutes - atHand);
        for (int turns = first; turns <= MOST_HEIGHT - height; turns++) {
            if (goesOnFor(minutes, height + turns)) {
                return turns;
            }
        }
        return NONE;
    }

    public int downFirst() {
        trial.copyFrom(now);
        for (int minutes = 0; minutes <= FAR; minutes++) {
            int down = trial.weights.firstDown();
            if (down != NONE) {
                return down;
            }
            trial.passMinute();
        }
        return NONE;
    }

    public double lostShare() {
        if (now.minute <= 0) {
            return 0.0;
        }
        return (double) (now.slips + now.stood) / (double) now.minute;
    }

    public long digest() {
        long hash = hashOfParts(FIRST_HASH);
        for (int what = 0; what < REASONS; what++) {
            hash = hashWith(hash, why(what));
        }
        trial.copyFrom(now);
        trial.passMinutes(DIGEST_MINUTES);
        for (int what = 0; what < OUTCOMES; what++) {
            hash = hashWith(hash, trial.outcome(what));
        }
        hash = hashWith(hash, standsIn());
        hash = hashWith(hash, paidIn());
        hash = hashWith(hash, leastTurns(DIGEST_TURNS_MINUTES));
        hash = hashWith(hash, downFirst());
        hash = hashWith(hash, bitsOfShare(lostShare()));
        return hashOfText(hash);
    }

    // ---- what the face leans on

    private static void requireWeight(int weight) {
        if (weight < 0 || weight >= WEIGHTS) {
            throw new IndexOutOfBoundsException("no such weight");
        }
    }

    private static void requireSetting(int setting) {
        if (setting < 0 || setting >= SETTINGS) {
            throw new IndexOutOfBoundsException("no such setting");
        }
    }

    private void requireWinder(int winder) {
        if (winder < 0 || winder >= now.winders.size) {
            throw new IndexOutOfBoundsException("no such winder");
        }
    }

    private static void requireRange(int value, int least, int most) {
        if (value < least || value > most) {
            throw new IllegalArgumentException("out of range");
        }
    }

    /**
     * Until the clock stands for the first time, who comes does not depend on the going weight.
     * So the rounds are noted once, on a clock that never stands. Returns their sum.
     */
    private int noteGoingRounds(int minutes) {
        int sum = 0;
        trial.copyFrom(now);
        for (int i = 0; i < minutes && i < goingRounds.length; i++) {
            goingRounds[i] = trial.goingTurnsThatCome();
            sum += goingRounds[i];
            trial.charge = 1;
            trial.passMinute();
        }
        return sum;
    }

    private boolean goesOnFor(int minutes, int height) {
        trial.charge = now.charge;
        trial.weights.height[GOING] = height;
        for (int i = 0; i < minutes && i < goingRounds.length; i++) {
            trial.weights.raise(GOING, goingRounds[i]);
            trial.rewind();
            if (trial.charge == 0) {
                return false;
            }
            trial.charge--;
        }
        return true;
    }

    private static long hashWith(long hash, long value) {
        return 31L * hash + value;
    }

    private long hashOfParts(long start) {
        long hash = start;
        for (int what = 0; what < NUMBERS; what++) {
            hash = hashWith(hash, count(what));
        }
        for (int i = 0; i < SETTINGS; i++) {
            hash = hashWith(hash, setting(i));
        }
        for (int i = 0; i < WEIGHTS; i++) {
            for (int what = 0; what < WEIGHT_PROPERTIES; what++) {
                hash = hashWith(hash, weight(i, what));
            }
        }
        for (int i = 0; i < now.winders.size; i++) {
            for (int what = 0; what < WINDER_PROPERTIES; what++) {
                hash = hashWith(hash, winder(i, what));
            }
        }
        for (int i = 0; i < now.debts.size; i++) {
            for (int what = 0; what < DEBT_PROPERTIES; what++) {
                hash = hashWith(hash, debt(i, what));
            }
        }
        return hash;
    }

    private long hashOfText(long start) {
        long hash = hashWith(start, text.length);
        for (int i = 0; i < text.length && i < MOST_SIGNS; i++) {
            hash = hashWith(hash, text.signs[i]);
        }
        return hash;
    }

    /** LANGUAGE.md leaves no Double.doubleToLongBits; a share is 0 to 1, and never subnormal. */
    private static long bitsOfShare(double share) {
        if (share <= 0.0) {
            return 0L;
        }
        double rest = share;
        long exponent = DOUBLE_BIAS;
        while (rest < 1.0 && exponent > 1) {
            rest = rest * 2.0;
            exponent--;
        }
        long fraction = (long) ((rest - 1.0) * (double) FRACTION_STEPS);
        return exponent * FRACTION_STEPS + fraction;
    }

    /** The heights of the weights, and the accounts of what made them. */
    private static final class Weights {
        final int[] height;
        final int[] taken;
        final int[] wound;

        Weights() {
            height = new int[WEIGHTS];
            taken = new int[WEIGHTS];
            wound = new int[WEIGHTS];
            for (int i = 0; i < WEIGHTS; i++) {
                height[i] = MOST_HEIGHT;
            }
        }

        void copyFrom(Weights other) {
            for (int i = 0; i < WEIGHTS; i++) {
                height[i] = other.height[i];
                taken[i] = other.taken[i];
                wound[i] = other.wound[i];
            }
        }

        int raise(int which, int turns) {
            if (which < 0 || which >= WEIGHTS) {
                return 0;
            }
            int by = Math.min(turns, MOST_HEIGHT - height[which]);
            height[which] += by;
            wound[which] += by;
            return by;
        }

        void take(int which, int turns) {
            if (which < 0 || which >= WEIGHTS) {
                return;
            }
            height[which] -= turns;
            taken[which] += turns;
        }

        int firstDown() {
            for (int i = 0; i < WEIGHTS; i++) {
                if (height[i] == 0) {
                    return i;
                }
            }
            return NONE;
        }
    }

    /** The winders, in the order of their numbers. */
    private static final class Winders {
        int size;
        final int[] weightOf;
        final int[] turns;
        final int[] period;
        final int[] dueFrom;
        final int[] came;

        Winders() {
            weightOf = new int[MOST_WINDERS];
            turns = new int[MOST_WINDERS];
            period = new int[MOST_WINDERS];
            dueFrom = new int[MOST_WINDERS];
            came = new int[MOST_WINDERS];
        }

        void copyFrom(Winders other) {
            size = other.size;
            for (int i = 0; i < size && i < MOST_WINDERS; i++) {
                copyWinder(other, i, i);
            }
        }

        private void copyWinder(Winders other, int from, int to) {
            if (from < 0 || from >= MOST_WINDERS || to < 0 || to >= MOST_WINDERS) {
                return;
            }
            weightOf[to] = other.weightOf[from];
            turns[to] = other.turns[from];
            period[to] = other.period[from];
            dueFrom[to] = other.dueFrom[from];
            came[to] = other.came[from];
        }

        void add(int itsWeight, int itsTurns, int itsPeriod, int firstDue) {
            if (size < 0 || size >= MOST_WINDERS) {
                return;
            }
            weightOf[size] = itsWeight;
            turns[size] = itsTurns;
            period[size] = itsPeriod;
            dueFrom[size] = firstDue;
            came[size] = 0;
            size++;
        }

        void remove(int gone) {
            for (int i = gone; i < size - 1; i++) {
                copyWinder(this, i + 1, i);
            }
            size--;
        }

        boolean isOneDue(int minute) {
            for (int i = 0; i < size && i < MOST_WINDERS; i++) {
                if (dueFrom[i] <= minute) {
                    return true;
                }
            }
            return false;
        }

        int whoComes(int minute, boolean strikersKeptOut) {
            int best = NONE;
            int earliest = minute + 1;
            for (int i = 0; i < size && i < MOST_WINDERS; i++) {
                boolean keptOut = strikersKeptOut && weightOf[i] == STRIKING;
                if (!keptOut && dueFrom[i] < earliest) {
                    best = i;
                    earliest = dueFrom[i];
                }
            }
            return best;
        }
    }

    /** The strokes that are owed, the first debt at 0. */
    private static final class Debts {
        int size;
        final int[] hour;
        final int[] left;

        Debts() {
            hour = new int[MOST_DEBTS];
            left = new int[MOST_DEBTS];
        }

        void copyFrom(Debts other) {
            size = other.size;
            for (int i = 0; i < size && i < MOST_DEBTS; i++) {
                hour[i] = other.hour[i];
                left[i] = other.left[i];
            }
        }

        int owed() {
            int sum = 0;
            for (int i = 0; i < size && i < MOST_DEBTS; i++) {
                sum += left[i];
            }
            return sum;
        }

        void add(int itsHour) {
            if (size < 0 || size >= MOST_DEBTS) {
                return;
            }
            hour[size] = itsHour;
            left[size] = itsHour;
            size++;
        }

        void payFirst(int strokes) {
            left[0] -= strokes;
            if (left[0] == 0) {
                dropFirst();
            }
        }

        void dropFirst() {
            for (int i = 1; i < size && i < MOST_DEBTS; i++) {
                hour[i - 1] = hour[i];
                left[i - 1] = left[i];
            }
            size--;
        }
    }

    /** All that undo gives back: the whole clock but its buffer. */
    private static final class State {
        final Weights weights;
        final Winders winders;
        final Debts debts;
        final int[] settings;
        int minute;
        int time;
        int charge;
        int snow;
        int wear;
        int struck;
        int forgiven;
        int chimed;
        int missed;
        int slips;
        int stood;
        int rewindings;

        State() {
            weights = new Weights();
            winders = new Winders();
            debts = new Debts();
            settings = new int[SETTINGS];
            System.arraycopy(FIRST_VALUE, 0, settings, 0, SETTINGS);
            charge = FIRST_VALUE[SPRING_SIZE];
        }

        void copyFrom(State other) {
            weights.copyFrom(other.weights);
            winders.copyFrom(other.winders);
            debts.copyFrom(other.debts);
            System.arraycopy(other.settings, 0, settings, 0, SETTINGS);
            minute = other.minute;
            time = other.time;
            charge = other.charge;
            snow = other.snow;
            wear = other.wear;
            struck = other.struck;
            forgiven = other.forgiven;
            chimed = other.chimed;
            missed = other.missed;
            slips = other.slips;
            stood = other.stood;
            rewindings = other.rewindings;
        }

        boolean isSilent() {
            int first = settings[SILENCE_FIRST];
            return first != 0 && Math.floorMod(hourShown() - first, HOURS) < settings[SILENCE_HOURS];
        }

        private int hourShown() {
            int hour = time / IN_HOUR;
            return hour == 0 ? HOURS : hour;
        }

        void passMinutes(int minutes) {
            for (int i = 0; i < minutes; i++) {
                passMinute();
            }
        }

        void passMinute() {
            passUpToDebts();
            strike();
            minute++;
        }

        private void passUpToDebts() {
            letWinderCome();
            rewind();
            if (moveHands()) {
                chime();
                owe();
            }
        }

        private void letWinderCome() {
            int who = winders.whoComes(minute, areStrikersKeptOut());
            if (who < 0 || who >= MOST_WINDERS) {
                return;
            }
            weights.raise(winders.weightOf[who], winders.turns[who]);
            winders.came[who]++;
            winders.dueFrom[who] = minute + winders.period[who];
        }

        private boolean areStrikersKeptOut() {
            return debts.size > 0 && weights.height[STRIKING] != 0;
        }

        void rewind() {
            int room = settings[SPRING_SIZE] - charge;
            int height = weights.height[GOING];
            if (charge > settings[REWIND_CHARGE] || room <= 0 || height == 0) {
                return;
            }
            int turns = Math.min(room, height);
            charge += turns;
            weights.take(GOING, turns);
            rewindings++;
        }

        /** Tells whether the hands went on. */
        private boolean moveHands() {
            if (charge == 0) {
                stood++;
                return false;
            }
            charge--;
            if (isSlippery()) {
                slip();
                return false;
            }
            time = (time + 1) % DIAL;
            return true;
        }

        private boolean isSlippery() {
            return snow > settings[GRIP] - wear;
        }

        private void slip() {
            slips++;
            if (slips % SLIPS_FOR_WEAR == 0 && wear < MOST_WEAR) {
                wear++;
            }
        }

        private void chime() {
            if (time % IN_QUARTER != 0 || isSilent()) {
                return;
            }
            int quarter = time % IN_HOUR / IN_QUARTER;
            int phrases = quarter == 0 ? 4 : quarter;
            int chimedNow = Math.min(phrases, weights.height[CHIMING] / TURNS_OF_PHRASE);
            weights.take(CHIMING, chimedNow * TURNS_OF_PHRASE);
            chimed += chimedNow;
            missed += phrases - chimedNow;
        }

        private void owe() {
            if (time % IN_HOUR != 0) {
                return;
            }
            if (isSilent()) {
                forgiven += hourShown();
                return;
            }
            if (debts.size == MOST_DEBTS) {
                forgiven += debts.left[0];
                debts.dropFirst();
            }
            debts.add(hourShown());
        }

        private void strike() {
            if (debts.size == 0 || isSilent()) {
                return;
            }
            int most = Math.min(settings[PACE], weights.height[STRIKING]);
            int strokes = Math.min(most, debts.left[0]);
            weights.take(STRIKING, strokes);
            struck += strokes;
            debts.payFirst(strokes);
        }

        boolean isDueAndKeptOut(int who) {
            return who >= 0 && who < winders.size && who < MOST_WINDERS
                    && winders.dueFrom[who] <= minute
                    && winders.weightOf[who] == STRIKING && areStrikersKeptOut();
        }

        int goingTurnsThatCome() {
            int who = winders.whoComes(minute, areStrikersKeptOut());
            if (who < 0 || who >= MOST_WINDERS || winders.weightOf[who] != GOING) {
                return 0;
            }
            return winders.turns[who];
        }

        /** Changes this state: it is for a trial. */
        int reasonNotToGoOn() {
            letWinderCome();
            rewind();
            if (charge == 0) {
                return 1;
            }
            return isSlippery() ? 2 : 0;
        }

        /** Changes this state: it is for a trial. */
        int reasonNotToStrike() {
            passUpToDebts();
            if (debts.size == 0) {
                return 1;
            }
            if (isSilent()) {
                return 2;
            }
            return weights.height[STRIKING] == 0 ? 3 : 0;
        }

        int reasonNotToCome() {
            if (winders.size == 0) {
                return 1;
            }
            if (!winders.isOneDue(minute)) {
                return 2;
            }
            return winders.whoComes(minute, areStrikersKeptOut()) == NONE ? 3 : 0;
        }

        int outcome(int what) {
            switch (what) {
                case 3:
                    return time;
                case 4:
                    return debts.owed();
                case 5:
                    return struck;
                case 6:
                    return forgiven;
                case 7:
                    return missed;
                case 8:
                    return slips;
                case 9:
                    return stood;
                default:
                    return what >= 0 && what < WEIGHTS ? weights.height[what] : NONE;
            }
        }
    }

    /** The saved states: a ring of states that are made once and filled again and again. */
    private static final class History {
        int size;
        private int oldest;
        private final State[] saved;

        History() {
            saved = new State[MOST_SAVED];
            for (int i = 0; i < MOST_SAVED; i++) {
                saved[i] = new State();
            }
        }

        void keep(State state) {
            State slot = saved[Math.floorMod(oldest + size, MOST_SAVED)];
            if (slot != null) {
                slot.copyFrom(state);
            }
            if (size < MOST_SAVED) {
                size++;
            } else {
                oldest = (oldest + 1) % MOST_SAVED;
            }
        }

        void giveBack(State state) {
            size--;
            State slot = saved[Math.floorMod(oldest + size, MOST_SAVED)];
            if (slot != null) {
                state.copyFrom(slot);
            }
        }
    }

    /** The buffer. */
    private static final class Text {
        int length;
        final char[] signs;
        private final Reader reader;

        Text() {
            signs = new char[MOST_SIGNS];
            reader = new Reader();
        }

        void add(char sign) {
            if (length < 0 || length >= MOST_SIGNS) {
                return;
            }
            signs[length] = sign;
            length++;
        }

        /** Returns the place of the first syntax error, or the length. */
        int readToError() {
            reader.begin();
            for (int i = 0; i < length && i < MOST_SIGNS; i++) {
                if (!reader.reads(signs[i])) {
                    return i;
                }
            }
            return length;
        }

        boolean isListOfRounds() {
            return readToError() == length && reader.hasWholeRound();
        }

        int separators() {
            int number = 0;
            for (int i = 0; i < length && i < MOST_SIGNS; i++) {
                if (signs[i] == ',') {
                    number++;
                }
            }
            return number;
        }

        /** For a buffer that is a list of rounds. */
        void hireInto(Winders winders, int minute) {
            winders.size = 0;
            reader.begin();
            for (int i = 0; i < length && i < MOST_SIGNS; i++) {
                if (signs[i] == ',') {
                    reader.hireInto(winders, minute);
                }
                reader.reads(signs[i]);
            }
            reader.hireInto(winders, minute);
        }
    }

    /** Reads rounds sign by sign; a number that is 0 has no digit yet. */
    private static final class Reader {
        private static final int AT_WEIGHT = 0;
        private static final int IN_TURNS = 1;
        private static final int IN_PERIOD = 2;

        private int place;
        private int weightRead;
        private int turnsRead;
        private int periodRead;

        Reader() {
            place = AT_WEIGHT;
        }

        void begin() {
            place = AT_WEIGHT;
        }

        boolean hasWholeRound() {
            return place == IN_PERIOD && periodRead > 0;
        }

        void hireInto(Winders winders, int minute) {
            winders.add(weightRead, turnsRead, periodRead, minute + periodRead);
        }

        /** Returns false, and reads nothing, if the sign is a syntax error. */
        boolean reads(char sign) {
            switch (place) {
                case AT_WEIGHT:
                    return readsWeight(sign);
                case IN_TURNS:
                    return readsTurns(sign);
                default:
                    return readsPeriod(sign);
            }
        }

        private boolean readsWeight(char sign) {
            int which = weightNamed(sign);
            if (which == NONE) {
                return false;
            }
            weightRead = which;
            turnsRead = 0;
            periodRead = 0;
            place = IN_TURNS;
            return true;
        }

        private static int weightNamed(char sign) {
            if (sign == 'g') {
                return GOING;
            }
            if (sign == 's') {
                return STRIKING;
            }
            return sign == 'c' ? CHIMING : NONE;
        }

        private boolean readsTurns(char sign) {
            if (sign == '/' && turnsRead > 0) {
                place = IN_PERIOD;
                return true;
            }
            int longer = withDigit(turnsRead, sign, MOST_HEIGHT);
            if (longer == NONE) {
                return false;
            }
            turnsRead = longer;
            return true;
        }

        private boolean readsPeriod(char sign) {
            if (sign == ',' && periodRead > 0) {
                place = AT_WEIGHT;
                return true;
            }
            int longer = withDigit(periodRead, sign, MOST_PERIOD);
            if (longer == NONE) {
                return false;
            }
            periodRead = longer;
            return true;
        }

        /** A first digit 0 leaves the number 0, so this one test finds leading zeros too. */
        private static int withDigit(int number, char sign, int most) {
            if (sign < '0' || sign > '9') {
                return NONE;
            }
            int longer = number * 10 + (sign - '0');
            return longer < 1 || longer > most ? NONE : longer;
        }
    }
}
