import java.util.function.IntSupplier;

/** Long runs of mixed calls, each answer compared with that of PlainClock; always the same runs. */
public final class LongRunsTest {
    private static final int RUNS = 480;
    /** What an object answers behind its 512th call is free; a text and the digest are up to 200 calls more. */
    private static final int CALLS = 300;

    private static long seed = 20261119L;
    private static int calls;

    public static void main(String[] args) {
        for (int run = 0; run < RUNS; run++) {
            run(run);
        }
        Check.end();
    }

    /** A number from 0 to below the bound. */
    private static int pick(int bound) {
        seed = seed * 6364136223846793005L + 1442695040888963407L;
        return (int) ((seed >>> 33) % bound);
    }

    /** A number from the range, at times one beside it. */
    private static int pick(int least, int most) {
        int chance = pick(40);
        if (chance == 0) {
            return least - 1 - pick(2);
        }
        if (chance == 1) {
            return most + 1 + pick(2);
        }
        return least + pick(most - least + 1);
    }

    private static void run(int run) {
        RemontoirClock clock = new RemontoirClock();
        PlainClock plain = new PlainClock();
        int kind = run % 4;
        calls = 0;
        while (calls < CALLS) {
            String name = run + ", " + calls + ": ";
            if (pick(2) == 0) {
                ask(name, clock, plain);
            } else {
                act(name, clock, plain, kind);
            }
        }
        Check.same(run + ": digest", clock.digest(), Digests.of(clock, plain.buffer()));
    }

    private static void same(String call, IntSupplier got, IntSupplier due) {
        calls++;
        Check.same(call, answer(got), answer(due));
    }

    /** An exception is told as a number that no call answers. */
    private static long answer(IntSupplier body) {
        try {
            return body.getAsInt();
        } catch (RuntimeException e) {
            Class<?> kind = e.getClass();
            return kind == Check.NO_INDEX ? -1001 : kind == Check.NO_ARGUMENT ? -1002
                    : kind == Check.NO_STATE ? -1003 : -1004;
        }
    }

    private static void act(String name, RemontoirClock clock, PlainClock plain, int kind) {
        int weight = pick(0, 2);
        int turns = kind == 0 ? pick(1, 12) : pick(1, 200);
        switch (pick(15)) {
            case 0:
            case 1:
                same(name + "wind", () -> clock.wind(weight, turns), () -> plain.wind(weight, turns));
                break;
            case 2:
            case 3:
                set(name, clock, plain);
                break;
            case 4:
                int snow = pick(0, 20);
                same(name + "setSnow", () -> clock.setSnow(snow), () -> plain.setSnow(snow));
                break;
            case 5:
                int time = pick(3) == 0 ? pick(0, 719) : 60 * pick(12) + 59;
                same(name + "setHands", () -> clock.setHands(time), () -> plain.setHands(time));
                break;
            case 6:
                same(name + "mend", clock::mend, plain::mend);
                break;
            case 7:
                if (pick(4) == 0) {
                    same(name + "forgive", clock::forgive, plain::forgive);
                }
                break;
            case 8:
                int period = kind < 2 ? pick(1, 40) : pick(1, 720);
                same(name + "hire", () -> clock.hire(weight, turns, period), () -> plain.hire(weight, turns, period));
                break;
            case 9:
                int winder = pick(0, 5);
                same(name + "dismiss", () -> clock.dismiss(winder), () -> plain.dismiss(winder));
                break;
            case 10:
                write(name, clock, plain);
                break;
            case 11:
                for (int i = pick(4); i > 0; i--) {
                    same(name + "undo", clock::undo, plain::undo);
                }
                break;
            default:
                int minutes = pick(3) == 0 ? pick(1, 720) : pick(1, 20);
                same(name + "pass", () -> clock.pass(minutes), () -> plain.pass(minutes));
        }
    }

    private static void set(String name, RemontoirClock clock, PlainClock plain) {
        int[][] ranges = {{2, 30}, {0, 20}, {1, 20}, {1, 12}, {0, 12}, {1, 12}};
        int setting = pick(0, 5);
        int[] range = setting < 0 || setting > 5 ? ranges[0] : ranges[setting];
        int value = setting == 4 && pick(2) == 0 ? 0 : pick(range[0], range[1]);
        same(name + "set", () -> clock.set(setting, value), () -> plain.set(setting, value));
    }

    private static void write(String name, RemontoirClock clock, PlainClock plain) {
        for (int i = pick(7); i > 0; i--) {
            String round = "" + "gsc".charAt(pick(3)) + pick(1, 200) + "/" + pick(1, 720) + (i > 1 ? "," : "");
            for (int at = 0; at < round.length(); at++) {
                int code = pick(200) == 0 ? pick(33, 126) : round.charAt(at);
                same(name + "append", () -> clock.append(code), () -> plain.append(code));
            }
        }
        same(name + "firstError", clock::firstError, plain::firstError);
        if (pick(4) > 0) {
            same(name + "load", clock::load, plain::load);
        }
        if (pick(2) == 0) {
            same(name + "clearBuffer", clock::clearBuffer, plain::clearBuffer);
        }
    }

    private static void ask(String name, RemontoirClock clock, PlainClock plain) {
        int first = pick(0, 5);
        int what = pick(0, 5);
        switch (pick(12)) {
            case 0:
                same(name + "weight", () -> clock.weight(first - 1, what - 1), () -> plain.weight(first - 1, what - 1));
                break;
            case 1:
                same(name + "winder", () -> clock.winder(first, what), () -> plain.winder(first, what));
                break;
            case 2:
                same(name + "debt", () -> clock.debt(first, what - 2), () -> plain.debt(first, what - 2));
                break;
            case 3:
                for (int i = -1; i <= 18; i++) {
                    int number = i;
                    same(name + "count " + i, () -> clock.count(number), () -> plain.count(number));
                }
                break;
            case 4:
                same(name + "setting", () -> clock.setting(first), () -> plain.setting(first));
                break;
            case 5:
                same(name + "why", () -> clock.why(what - 1), () -> plain.why(what - 1));
                break;
            case 6:
                int minutes = pick(1, 720);
                int number = pick(0, 9);
                same(name + "ifPassed", () -> clock.ifPassed(minutes, number), () -> plain.ifPassed(minutes, number));
                break;
            case 7:
                same(name + "standsIn", clock::standsIn, plain::standsIn);
                break;
            case 8:
                same(name + "paidIn", clock::paidIn, plain::paidIn);
                break;
            case 9:
                int length = pick(1, 720);
                same(name + "leastTurns", () -> clock.leastTurns(length), () -> plain.leastTurns(length));
                break;
            case 10:
                same(name + "downFirst", clock::downFirst, plain::downFirst);
                break;
            default:
                calls++;
                Check.sameDouble(name + "lostShare", clock.lostShare(), plain.lostShare());
        }
    }
}
