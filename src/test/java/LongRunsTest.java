import java.util.Arrays;

/**
 * Runs of 512 calls on DewPond and on PlainDowns: every answer and every
 * exception must be the same. In every other run each second call is digest.
 */
public final class LongRunsTest {
    private static final int RUNS = 400;
    private static final int CALLS = 512;
    private static final String[] NAMES = {
        "dig", "link", "puddle", "strew", "pour", "pond", "setWeather", "bring", "addFlock", "drive",
        "setRoams", "flock", "pass", "count", "foresee", "lasts", "keep", "advise", "full", "digest",
    };
    private static final int DIGEST = 19;

    // How often a call comes, in the order of the face.
    private static final int[] OFTEN = {8, 8, 10, 8, 14, 6, 8, 6, 5, 8, 5, 5, 16, 4, 6, 4, 3, 5, 3, 1};

    private final Lot lot;
    private final boolean isDry;
    private final DewPond downs = new DewPond();
    private final PlainDowns plain = new PlainDowns();

    private LongRunsTest(int run) {
        lot = new Lot(run);
        isDry = run % 4 < 2;
    }

    public static void main(String[] args) {
        for (int run = 0; run < RUNS; run++) {
            new LongRunsTest(run).compare(run);
        }
        Check.end();
    }

    private void compare(int run) {
        boolean isSummed = run % 2 == 0;
        int step = isSummed ? 2 : 1;
        for (int k = 0; k + step < CALLS; k += step) {
            int call = nextCall(k / step);
            compareCall("run " + run + ", call " + k, call, arguments(call));
            if (isSummed) {
                compareCall("run " + run + ", behind call " + k, DIGEST, new int[0]);
            }
        }
        compareCall("run " + run + ", at last", DIGEST, new int[0]);
    }

    private int nextCall(int k) {
        return k < 12 ? 0 : k < 18 ? 1 : k < 28 ? 6 : k < 32 ? 8 : lot.weighted(OFTEN);
    }

    private void compareCall(String where, int call, int[] args) {
        String due = plain.answer(call, args);
        String got = answer(call, args);
        Check.due(where + ": " + NAMES[call] + Arrays.toString(args) + " is " + got + ", due is " + due + ":",
                got.equals(due), true);
    }

    private String answer(int call, int[] args) {
        try {
            return String.valueOf(called(call, args));
        } catch (RuntimeException e) {
            return e.getClass().getSimpleName();
        }
    }

    private Object called(int call, int[] a) {
        switch (call) {
            case 0: return downs.dig(a[0], a[1], a[2], a[3], a[4]);
            case 1: return downs.link(a[0], a[1]);
            case 2: return downs.puddle(a[0], a[1]);
            case 3: return downs.strew(a[0], a[1] == 1);
            case 4: return downs.pour(a[0], a[1]);
            case 5: return downs.pond(a[0], a[1]);
            case 6: return downs.setWeather(a[0], a[1], a[2], a[3]);
            case 7: return downs.bring(a[0]);
            case 8: return downs.addFlock(a[0], a[1]);
            case 9: return downs.drive(a[0], a[1]);
            case 10: return downs.setRoams(a[0], a[1] == 1);
            case 11: return downs.flock(a[0], a[1]);
            case 12: return downs.pass(a[0]);
            case 13: return downs.count(a[0]);
            case 14: return downs.foresee(a[0], a[1]);
            case 15: return downs.lasts(a[0]);
            case 16: return downs.keep(a[0], a[1]);
            case 17: return downs.advise(a[0]);
            case 18: return downs.full();
            default: return downs.digest();
        }
    }

    private int[] arguments(int call) {
        switch (call) {
            case 0: return new int[] {lot.of(0, 40, 9), lot.of(0, 40, 9), height(), lot.of(1, 60, 20), lot.of(1, 9, 3)};
            case 1: return new int[] {pond(), lot.of(-1, 9, 10)};
            case 2: return new int[] {pond(), lot.of(1, 100, 60)};
            case 3: return new int[] {pond(), lot.below(2)};
            case 4: return new int[] {pond(), amount()};
            case 5: return new int[] {pond(), lot.of(0, 11, 11)};
            case 6: return new int[] {lot.of(0, 9, 9), lot.of(0, 9, most()), lot.of(0, 9, most()), lot.of(0, 9, 9)};
            case 7: return new int[] {lot.of(1, 100, 60)};
            case 8: return new int[] {pond(), lot.of(1, 80, 40)};
            case 9: return new int[] {flock(), pond()};
            case 10: return new int[] {flock(), lot.below(2)};
            case 11: return new int[] {flock(), lot.of(0, 5, 5)};
            case 12: return new int[] {lot.of(1, 100, lot.below(4) == 0 ? 30 : 3)};
            case 13: return new int[] {lot.of(0, 7, 7)};
            case 14: return new int[] {pond(), lot.of(1, 100, 30)};
            case 15: return new int[] {pond()};
            case 16: return new int[] {pond(), lot.of(1, 50, 8)};
            case 17: return new int[] {lot.of(1, 50, 20)};
            default: return new int[0];
        }
    }

    private int pond() {
        return lot.of(0, 9, 9);
    }

    private int flock() {
        return lot.of(0, 5, 5);
    }

    private int most() {
        return isDry ? 2 : 9;
    }

    private int height() {
        return lot.below(2) == 0 ? lot.of(0, 300, 300) : 148 + lot.below(4);
    }

    private int amount() {
        int sign = lot.below(3) == 0 ? -1 : 1;
        return lot.below(6) == 0 ? lot.of(-10000, 10000, 20000) : sign * lot.below(400);
    }

    /** Lots that are drawn alike in every run of the test. */
    private static final class Lot {
        private long state;

        Lot(long seed) {
            state = seed * 7919 + 17;
            for (int k = 0; k < 5; k++) {
                below(2);
            }
        }

        int below(int bound) {
            state = state * 6364136223846793005L + 1442695040888963407L;
            return (int) Long.remainderUnsigned(state >>> 33, bound);
        }

        /** A number of the range, mostly one of its first span, seldom its ends, beside them, or far off. */
        int of(int least, int most, int span) {
            if (below(300) == 0) {
                return below(2) == 0 ? Integer.MIN_VALUE : Integer.MAX_VALUE;
            }
            switch (below(24)) {
                case 0: return least - 1 + below(2);
                case 1: return most + below(2);
                default: return least + below(Math.min(span, most - least) + 1);
            }
        }

        int weighted(int[] weights) {
            int left = below(Arrays.stream(weights).sum());
            int k = 0;
            while (left >= weights[k]) {
                left -= weights[k];
                k++;
            }
            return k;
        }
    }
}
