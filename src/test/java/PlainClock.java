import java.util.ArrayList;
import java.util.List;

/**
 * The document once more, written for nothing but to be compared with: it copies whole clocks for
 * all that would be, and tries every number of turns.
 */
final class PlainClock {
    private static final class Round {
        int weight;
        int turns;
        int period;
        int due;
        int came;
    }

    private static final class Debt {
        int hour;
        int left;
    }

    private static final class Parts {
        int[] height = {200, 200, 200};
        int[] taken = {0, 0, 0};
        int[] wound = {0, 0, 0};
        int[] settings = {10, 2, 8, 6, 0, 6};
        int minute;
        int time;
        int charge = 10;
        int snow;
        int wear;
        int struck;
        int forgiven;
        int chimed;
        int missed;
        int slips;
        int stood;
        int rewindings;
        List<Round> winders = new ArrayList<>();
        List<Debt> debts = new ArrayList<>();

        Parts copy() {
            Parts copy = new Parts();
            copy.height = height.clone();
            copy.taken = taken.clone();
            copy.wound = wound.clone();
            copy.settings = settings.clone();
            copy.minute = minute;
            copy.time = time;
            copy.charge = charge;
            copy.snow = snow;
            copy.wear = wear;
            copy.struck = struck;
            copy.forgiven = forgiven;
            copy.chimed = chimed;
            copy.missed = missed;
            copy.slips = slips;
            copy.stood = stood;
            copy.rewindings = rewindings;
            for (Round round : winders) {
                Round other = new Round();
                other.weight = round.weight;
                other.turns = round.turns;
                other.period = round.period;
                other.due = round.due;
                other.came = round.came;
                copy.winders.add(other);
            }
            for (Debt debt : debts) {
                Debt other = new Debt();
                other.hour = debt.hour;
                other.left = debt.left;
                copy.debts.add(other);
            }
            return copy;
        }

        int hour() {
            return time < 60 ? 12 : time / 60;
        }

        boolean silent() {
            if (settings[4] == 0) {
                return false;
            }
            int hour = settings[4];
            for (int i = 0; i < settings[5]; i++) {
                if (hour == hour()) {
                    return true;
                }
                hour = hour == 12 ? 1 : hour + 1;
            }
            return false;
        }

        boolean keptOut(Round round) {
            return round.weight == 1 && !debts.isEmpty() && height[1] != 0;
        }

        Round comes() {
            Round best = null;
            for (Round round : winders) {
                if (round.due <= minute && !keptOut(round) && (best == null || round.due < best.due)) {
                    best = round;
                }
            }
            return best;
        }

        void part1() {
            Round round = comes();
            if (round == null) {
                return;
            }
            round.came++;
            round.due = minute + round.period;
            for (int i = 0; i < round.turns && height[round.weight] < 200; i++) {
                height[round.weight]++;
                wound[round.weight]++;
            }
        }

        void part2() {
            if (charge <= settings[1] && charge < settings[0] && height[0] != 0) {
                rewindings++;
                while (charge < settings[0] && height[0] > 0) {
                    charge++;
                    height[0]--;
                    taken[0]++;
                }
            }
        }

        boolean slipsNow() {
            return snow > settings[2] - wear;
        }

        boolean part3() {
            if (charge == 0) {
                stood++;
                return false;
            }
            charge--;
            if (slipsNow()) {
                slips++;
                if (slips % 5 == 0) {
                    wear = Math.min(20, wear + 1);
                }
                return false;
            }
            time = time == 719 ? 0 : time + 1;
            return true;
        }

        void part4() {
            if (time % 15 != 0 || silent()) {
                return;
            }
            int phrases = 4;
            if (time % 60 != 0) {
                phrases = time % 60 / 15;
            }
            boolean missing = false;
            for (int i = 0; i < phrases; i++) {
                missing = missing || height[2] < 2;
                if (missing) {
                    missed++;
                } else {
                    height[2] -= 2;
                    taken[2] += 2;
                    chimed++;
                }
            }
        }

        void part5() {
            if (time % 60 != 0) {
                return;
            }
            if (silent()) {
                forgiven += hour();
                return;
            }
            if (debts.size() == 4) {
                forgiven += debts.remove(0).left;
            }
            Debt debt = new Debt();
            debt.hour = hour();
            debt.left = hour();
            debts.add(debt);
        }

        void part6() {
            if (debts.isEmpty() || silent()) {
                return;
            }
            Debt first = debts.get(0);
            for (int i = 0; i < settings[3] && first.left > 0 && height[1] > 0; i++) {
                first.left--;
                height[1]--;
                taken[1]++;
                struck++;
            }
            if (first.left == 0) {
                debts.remove(0);
            }
        }

        void parts1To5() {
            part1();
            part2();
            if (part3()) {
                part4();
                part5();
            }
        }

        void minutePasses() {
            parts1To5();
            part6();
            minute++;
        }

        int owed() {
            int sum = 0;
            for (Debt debt : debts) {
                sum += debt.left;
            }
            return sum;
        }
    }

    private Parts parts = new Parts();
    private final List<Parts> saved = new ArrayList<>();
    private String buffer = "";

    private void save() {
        saved.add(parts.copy());
        if (saved.size() > 6) {
            saved.remove(0);
        }
    }

    private static void weightIn(int weight) {
        if (weight < 0 || weight > 2) {
            throw new IndexOutOfBoundsException();
        }
    }

    private static void in(int value, int least, int most) {
        if (value < least || value > most) {
            throw new IllegalArgumentException();
        }
    }

    private static void state(boolean bad) {
        if (bad) {
            throw new IllegalStateException();
        }
    }

    int wind(int weight, int turns) {
        weightIn(weight);
        in(turns, 1, 200);
        save();
        int before = parts.height[weight];
        parts.height[weight] = Math.min(200, before + turns);
        parts.wound[weight] += parts.height[weight] - before;
        return parts.height[weight] - before;
    }

    int set(int setting, int value) {
        if (setting < 0 || setting > 5) {
            throw new IndexOutOfBoundsException();
        }
        int[][] ranges = {{2, 30}, {0, 20}, {1, 20}, {1, 12}, {0, 12}, {1, 12}};
        in(value, ranges[setting][0], ranges[setting][1]);
        save();
        int before = parts.settings[setting];
        parts.settings[setting] = value;
        if (setting == 0 && parts.charge > value) {
            parts.charge = value;
        }
        return before;
    }

    int setSnow(int snow) {
        in(snow, 0, 20);
        save();
        int before = parts.snow;
        parts.snow = snow;
        return before;
    }

    int setHands(int time) {
        in(time, 0, 719);
        save();
        int before = parts.time;
        parts.time = time;
        return before;
    }

    int mend() {
        save();
        int before = parts.wear;
        parts.wear = 0;
        return before;
    }

    int forgive() {
        save();
        int owed = parts.owed();
        parts.debts.clear();
        parts.forgiven += owed;
        return owed;
    }

    private void hireNow(int weight, int turns, int period) {
        Round round = new Round();
        round.weight = weight;
        round.turns = turns;
        round.period = period;
        round.due = parts.minute + period;
        parts.winders.add(round);
    }

    int hire(int weight, int turns, int period) {
        weightIn(weight);
        in(turns, 1, 200);
        in(period, 1, 720);
        state(parts.winders.size() == 6);
        save();
        hireNow(weight, turns, period);
        return parts.winders.size() - 1;
    }

    private Round round(int winder) {
        if (winder < 0 || winder >= parts.winders.size()) {
            throw new IndexOutOfBoundsException();
        }
        return parts.winders.get(winder);
    }

    int dismiss(int winder) {
        round(winder);
        save();
        parts.winders.remove(winder);
        return parts.winders.size();
    }

    int pass(int minutes) {
        in(minutes, 1, 720);
        state(parts.minute + minutes > 20000);
        save();
        int before = parts.struck;
        for (int i = 0; i < minutes; i++) {
            parts.minutePasses();
        }
        return parts.struck - before;
    }

    int append(int code) {
        in(code, 33, 126);
        state(buffer.length() == 60);
        buffer += (char) code;
        return buffer.length();
    }

    int clearBuffer() {
        int before = buffer.length();
        buffer = "";
        return before;
    }

    private static final String NUMBER_200 = "([1-9]|[1-9][0-9]|1[0-9][0-9]|200)";
    private static final String NUMBER_720 = "([1-9]|[1-9][0-9]|[1-6][0-9][0-9]|7[01][0-9]|720)";
    private static final String ROUND = "[gsc]" + NUMBER_200 + "/" + NUMBER_720;
    private static final String WHOLE = ROUND + "(," + ROUND + ")*";

    /** A beginning of a list is one that some ending makes whole. */
    private static boolean begins(String text) {
        for (String ending : new String[] {"", "1", "/1", "1/1", "g1/1"}) {
            if ((text + ending).matches(WHOLE)) {
                return true;
            }
        }
        return false;
    }

    int firstError() {
        for (int i = 0; i < buffer.length(); i++) {
            if (!begins(buffer.substring(0, i + 1))) {
                return i;
            }
        }
        return buffer.length();
    }

    int load() {
        if (!buffer.matches(WHOLE)) {
            throw new IllegalArgumentException();
        }
        String[] rounds = buffer.split(",");
        state(rounds.length > 6);
        save();
        parts.winders.clear();
        for (String round : rounds) {
            int slash = round.indexOf('/');
            hireNow("gsc".indexOf(round.charAt(0)), Integer.parseInt(round.substring(1, slash)),
                    Integer.parseInt(round.substring(slash + 1)));
        }
        buffer = "";
        return rounds.length;
    }

    int undo() {
        state(saved.isEmpty());
        parts = saved.remove(saved.size() - 1);
        return saved.size();
    }

    int weight(int weight, int what) {
        weightIn(weight);
        in(what, 0, 2);
        return new int[][] {parts.height, parts.taken, parts.wound}[what][weight];
    }

    int winder(int winder, int what) {
        Round round = round(winder);
        in(what, 0, 5);
        int out = round.due <= parts.minute && parts.keptOut(round) ? 1 : 0;
        int until = round.due > parts.minute ? round.due - parts.minute : 0;
        return new int[] {round.weight, round.turns, round.period, until, round.came, out}[what];
    }

    int debt(int debt, int what) {
        if (debt < 0 || debt >= parts.debts.size()) {
            throw new IndexOutOfBoundsException();
        }
        in(what, 0, 1);
        Debt it = parts.debts.get(debt);
        return what == 0 ? it.hour : it.left;
    }

    int count(int what) {
        in(what, 0, 17);
        int behind = (parts.minute - parts.time + 720) % 720;
        return new int[] {parts.minute, parts.time, parts.charge, parts.snow, parts.wear, parts.debts.size(),
            parts.owed(), parts.struck, parts.forgiven, parts.chimed, parts.missed, parts.slips, parts.stood,
            parts.rewindings, parts.winders.size(), behind, parts.silent() ? 1 : 0, saved.size()}[what];
    }

    int setting(int setting) {
        if (setting < 0 || setting > 5) {
            throw new IndexOutOfBoundsException();
        }
        return parts.settings[setting];
    }

    int why(int what) {
        in(what, 0, 2);
        Parts trial = parts.copy();
        if (what == 0) {
            trial.part1();
            trial.part2();
            return trial.charge == 0 ? 1 : trial.slipsNow() ? 2 : 0;
        }
        if (what == 1) {
            trial.parts1To5();
            int reason = trial.debts.isEmpty() ? 1 : trial.silent() ? 2 : 3;
            int before = trial.struck;
            trial.part6();
            return trial.struck > before ? 0 : reason;
        }
        if (trial.winders.isEmpty()) {
            return 1;
        }
        for (Round round : trial.winders) {
            if (round.due <= trial.minute) {
                return trial.comes() == null ? 3 : 0;
            }
        }
        return 2;
    }

    int ifPassed(int minutes, int what) {
        in(minutes, 1, 720);
        in(what, 0, 9);
        Parts trial = parts.copy();
        for (int i = 0; i < minutes; i++) {
            trial.minutePasses();
        }
        return new int[] {trial.height[0], trial.height[1], trial.height[2], trial.time, trial.owed(), trial.struck,
            trial.forgiven, trial.missed, trial.slips, trial.stood}[what];
    }

    private static int firstStand(Parts trial, int looked) {
        int before = trial.stood;
        for (int i = 0; i < looked; i++) {
            trial.minutePasses();
            if (trial.stood != before) {
                return i;
            }
        }
        return -1;
    }

    int standsIn() {
        return firstStand(parts.copy(), 1501);
    }

    int paidIn() {
        Parts trial = parts.copy();
        for (int i = 0; i <= 720; i++) {
            if (trial.debts.isEmpty()) {
                return i;
            }
            trial.minutePasses();
        }
        return -1;
    }

    int leastTurns(int minutes) {
        in(minutes, 1, 720);
        for (int turns = 0; parts.height[0] + turns <= 200; turns++) {
            Parts trial = parts.copy();
            trial.height[0] += turns;
            if (firstStand(trial, minutes) == -1) {
                return turns;
            }
        }
        return -1;
    }

    int downFirst() {
        Parts trial = parts.copy();
        for (int i = 0; i <= 1500; i++) {
            for (int weight = 0; weight < 3; weight++) {
                if (trial.height[weight] == 0) {
                    return weight;
                }
            }
            trial.minutePasses();
        }
        return -1;
    }

    double lostShare() {
        return parts.minute == 0 ? 0.0 : (double) (parts.slips + parts.stood) / parts.minute;
    }

    String buffer() {
        return buffer;
    }
}
