import java.util.ArrayList;
import java.util.Comparator;
import java.util.List;
import java.util.TreeSet;

/**
 * The document's downs once more, in the plainest form and without a thought
 * for room or time, for long runs beside DewPond. An answer that throws is
 * told by the exception's name.
 */
final class PlainDowns {
    private static final class Refused extends RuntimeException {
        private static final long serialVersionUID = 1L;

        Refused(String kind) {
            super(kind);
        }
    }

    private static final class State {
        int day = 0;
        int heap = 100;
        int[][] weather = new int[10][3];
        List<int[]> ponds = new ArrayList<>();
        List<int[]> flocks = new ArrayList<>();

        State copy() {
            State copy = new State();
            copy.day = day;
            copy.heap = heap;
            for (int k = 0; k < 10; k++) {
                copy.weather[k] = weather[k].clone();
            }
            for (int[] pond : ponds) {
                copy.ponds.add(pond.clone());
            }
            for (int[] flock : flocks) {
                copy.flocks.add(flock.clone());
            }
            return copy;
        }
    }

    // A pond's numbers: x, y, height, size, holds, water, lining, straw, runs into, (not held), ran over.
    private static final int HEIGHT = 2;
    private static final int SIZE = 3;
    private static final int HOLDS = 4;
    private static final int WATER = 5;
    private static final int LINING = 6;
    private static final int STRAW = 7;
    private static final int INTO = 8;
    private static final int OVER = 10;
    // A flock's numbers: sheep, pond, thirst, roams, (not held), drunk.
    private static final int SHEEP = 0;
    private static final int PLACE = 1;
    private static final int THIRST = 2;
    private static final int ROAMS = 3;
    private static final int DRUNK = 5;

    private State now = new State();

    /** The answer to a call, in the order of the face: 0 dig .. 19 digest. */
    String answer(int call, int[] a) {
        try {
            return String.valueOf(called(call, a));
        } catch (Refused refused) {
            return refused.getMessage();
        }
    }

    private Object called(int call, int[] a) {
        switch (call) {
            case 0: return dig(a[0], a[1], a[2], a[3], a[4]);
            case 1: return link(a[0], a[1]);
            case 2: return puddle(a[0], a[1]);
            case 3: return flag(pondOf(a[0]), STRAW, a[1]);
            case 4: return pour(a[0], a[1]);
            case 5: return pond(a[0], a[1]);
            case 6: return setWeather(a[0], a[1], a[2], a[3]);
            case 7: return bring(a[0]);
            case 8: return addFlock(a[0], a[1]);
            case 9: return drive(a[0], a[1]);
            case 10: return flag(flockOf(a[0]), ROAMS, a[1]);
            case 11: return flock(a[0], a[1]);
            case 12: return pass(a[0]);
            case 13: return count(a[0]);
            case 14: return foresee(a[0], a[1]);
            case 15: return lasts(a[0]);
            case 16: return keep(a[0], a[1]);
            case 17: return advise(a[0]);
            case 18: return full();
            default: return digest();
        }
    }

    private static void within(int number, int least, int most) {
        if (number < least || number > most) {
            throw new Refused("IllegalArgumentException");
        }
    }

    private static void state(boolean right) {
        if (!right) {
            throw new Refused("IllegalStateException");
        }
    }

    private static void index(int number, int count) {
        if (number < 0 || number >= count) {
            throw new Refused("IndexOutOfBoundsException");
        }
    }

    private int[] pondOf(int number) {
        index(number, now.ponds.size());
        return now.ponds.get(number);
    }

    private int[] flockOf(int number) {
        index(number, now.flocks.size());
        return now.flocks.get(number);
    }

    private int dig(int x, int y, int height, int size, int depth) {
        within(x, 0, 40);
        within(y, 0, 40);
        within(height, 0, 300);
        within(size, 1, 60);
        within(depth, 1, 9);
        for (int[] pond : now.ponds) {
            state(pond[0] != x || pond[1] != y);
        }
        state(now.ponds.size() < 10);
        now.ponds.add(new int[] {x, y, height, size, size * depth * 10, 0, 0, 0, -1, 0, 0});
        return now.ponds.size() - 1;
    }

    private int link(int pond, int other) {
        int[] upper = pondOf(pond);
        if (other != -1 && pondOf(other)[HEIGHT] >= upper[HEIGHT]) {
            throw new Refused("IllegalArgumentException");
        }
        int before = upper[INTO];
        upper[INTO] = other;
        return before;
    }

    private int puddle(int pond, int clay) {
        int[] p = pondOf(pond);
        within(clay, 1, 100);
        state(p[WATER] <= p[HOLDS] / 4);
        int used = 0;
        while (used < clay && p[LINING] < 100 && now.heap > 0) {
            used++;
            p[LINING]++;
            now.heap--;
        }
        return used;
    }

    private boolean flag(int[] row, int field, int to) {
        boolean before = row[field] == 1;
        row[field] = to;
        return before;
    }

    private int pour(int pond, int by) {
        int[] p = pondOf(pond);
        within(by, -10000, 10000);
        p[WATER] += by;
        if (p[WATER] < 0) {
            p[WATER] = 0;
        }
        if (p[WATER] > p[HOLDS]) {
            p[WATER] = p[HOLDS];
        }
        return p[WATER];
    }

    private int pond(int pond, int what) {
        int[] p = pondOf(pond);
        index(what, 12);
        if (what == 9) {
            int there = 0;
            for (int[] flock : now.flocks) {
                there += flock[PLACE] == pond && flock[THIRST] < 10 ? 1 : 0;
            }
            return there;
        }
        return what == 11 ? sources(pond) : p[what];
    }

    private int sources(int pond) {
        TreeSet<Integer> found = new TreeSet<>();
        for (int round = 0; round < 10; round++) {
            for (int k = 0; k < now.ponds.size(); k++) {
                int into = now.ponds.get(k)[INTO];
                if (into == pond || found.contains(into)) {
                    found.add(k);
                }
            }
        }
        int sum = 0;
        for (int k : found) {
            sum += (int) Math.pow(2, k);
        }
        return sum;
    }

    private static int asNumber(int[] weather) {
        return 100 * weather[0] + 10 * weather[1] + weather[2];
    }

    private int setWeather(int day, int mist, int rain, int sun) {
        index(day, 10);
        within(mist, 0, 9);
        within(rain, 0, 9);
        within(sun, 0, 9);
        int before = asNumber(now.weather[day]);
        now.weather[day] = new int[] {mist, rain, sun};
        return before;
    }

    private int bring(int clay) {
        within(clay, 1, 100);
        state(now.heap + clay <= 500);
        now.heap += clay;
        return now.heap;
    }

    private int addFlock(int pond, int sheep) {
        pondOf(pond);
        within(sheep, 1, 80);
        state(now.flocks.size() < 6);
        now.flocks.add(new int[] {sheep, pond, 0, 0, 0, 0});
        return now.flocks.size() - 1;
    }

    private static int distance(int[] one, int[] other) {
        return Math.abs(one[0] - other[0]) + Math.abs(one[1] - other[1]);
    }

    private int drive(int flock, int pond) {
        int[] f = flockOf(flock);
        int[] goal = pondOf(pond);
        state(f[THIRST] < 10);
        int way = distance(now.ponds.get(f[PLACE]), goal);
        f[PLACE] = pond;
        return way;
    }

    private int flock(int flock, int what) {
        int[] f = flockOf(flock);
        index(what, 6);
        if (what == 4) {
            return f[THIRST] == 10 ? 1 : 0;
        }
        return f[what];
    }

    private int pass(int days) {
        within(days, 1, 100);
        int drunk = 0;
        for (int k = 0; k < days; k++) {
            drunk += day(now);
        }
        return drunk;
    }

    private static int day(State s) {
        int[] weather = s.weather[s.day % 10];
        for (int[] p : s.ponds) {
            int mist = weather[0] * p[SIZE] / 4;
            p[WATER] += p[HEIGHT] < 150 ? mist : mist + mist;
        }
        for (int[] p : s.ponds) {
            p[WATER] += weather[1] * p[SIZE] / 2;
        }
        int drunk = 0;
        for (int[] f : s.flocks) {
            if (f[THIRST] < 10) {
                drunk += drink(s, f);
            }
        }
        for (int[] p : s.ponds) {
            int loss = weather[2] * p[SIZE] / 5;
            if (p[STRAW] == 1) {
                loss /= 2;
            }
            p[WATER] = Math.max(p[WATER] - loss, 0);
        }
        for (int[] p : s.ponds) {
            p[WATER] -= p[WATER] * (100 - p[LINING]) / 200;
        }
        List<int[]> order = new ArrayList<>(s.ponds);
        order.sort(Comparator.comparingInt(p -> -p[HEIGHT]));
        for (int[] p : order) {
            if (p[WATER] > p[HOLDS]) {
                int more = p[WATER] - p[HOLDS];
                p[WATER] = p[HOLDS];
                p[OVER] += more;
                if (p[INTO] >= 0) {
                    s.ponds.get(p[INTO])[WATER] += more;
                }
            }
        }
        for (int[] p : s.ponds) {
            if (s.day % 10 == 9) {
                p[STRAW] = 0;
            }
        }
        s.day++;
        return drunk;
    }

    private static int drink(State s, int[] f) {
        int need = 2 * f[SHEEP];
        int[] here = s.ponds.get(f[PLACE]);
        if (f[ROAMS] == 1 && f[THIRST] > 0 && here[WATER] < need) {
            List<int[]> goals = new ArrayList<>();
            for (int[] p : s.ponds) {
                if (p != here && p[WATER] >= need) {
                    goals.add(p);
                }
            }
            goals.sort(Comparator.comparingInt(p -> distance(p, here)));
            if (!goals.isEmpty()) {
                f[PLACE] = s.ponds.indexOf(goals.get(0));
            }
        }
        int[] pond = s.ponds.get(f[PLACE]);
        int drunk = Math.min(pond[WATER], need);
        pond[WATER] -= drunk;
        f[DRUNK] += drunk;
        f[THIRST] = drunk == need ? Math.max(f[THIRST] - 2, 0) : Math.min(f[THIRST] + 3, 10);
        if (pond[STRAW] == 0) {
            pond[LINING] = Math.max(pond[LINING] - f[SHEEP] / 10, 0);
        }
        return drunk;
    }

    private static int water(State s) {
        int water = 0;
        for (int[] p : s.ponds) {
            water += p[WATER];
        }
        return water;
    }

    private int count(int what) {
        index(what, 8);
        int lost = 0;
        int sheep = 0;
        for (int[] f : now.flocks) {
            lost += f[THIRST] == 10 ? 1 : 0;
            sheep += f[THIRST] == 10 ? 0 : f[SHEEP];
        }
        int empty = 0;
        for (int[] p : now.ponds) {
            empty += p[WATER] == 0 ? 1 : 0;
        }
        int[] all = {now.day, now.ponds.size(), now.flocks.size(), lost, now.heap, water(now), empty, sheep};
        return all[what];
    }

    private int foresee(int pond, int days) {
        pondOf(pond);
        within(days, 1, 100);
        State s = now.copy();
        for (int k = 0; k < days; k++) {
            day(s);
        }
        return s.ponds.get(pond)[WATER];
    }

    private int lasts(int pond) {
        pondOf(pond);
        State s = now.copy();
        for (int days = 0; days <= 200; days++) {
            if (s.ponds.get(pond)[WATER] == 0) {
                return days;
            }
            day(s);
        }
        return -1;
    }

    private int keep(int pond, int days) {
        pondOf(pond);
        within(days, 1, 50);
        int greatest = 0;
        for (int sheep = 1; sheep <= 80; sheep++) {
            State s = now.copy();
            int[] added = {sheep, pond, 0, 0, 0, 0};
            s.flocks.add(added);
            int thirst = 0;
            for (int k = 0; k < days; k++) {
                day(s);
                thirst += added[THIRST];
            }
            greatest = thirst == 0 ? sheep : greatest;
        }
        return greatest;
    }

    private int advise(int days) {
        within(days, 1, 50);
        State without = now.copy();
        for (int k = 0; k < days; k++) {
            day(without);
        }
        int best = -1;
        int most = water(without);
        for (int pond = now.ponds.size() - 1; pond >= 0; pond--) {
            State s = now.copy();
            int[] p = s.ponds.get(pond);
            if (p[WATER] > p[HOLDS] / 4) {
                continue;
            }
            p[LINING] = Math.min(100, p[LINING] + s.heap);
            for (int k = 0; k < days; k++) {
                day(s);
            }
            if (water(s) > most || best >= 0 && water(s) == most) {
                most = water(s);
                best = pond;
            }
        }
        return best;
    }

    private double full() {
        int holds = 0;
        for (int[] p : now.ponds) {
            holds += p[HOLDS];
        }
        return holds == 0 ? 0 : 1.0 * water(now) / holds;
    }

    private long digest() {
        List<Integer> told = new ArrayList<>();
        for (int what = 0; what < 8; what++) {
            told.add(count(what));
        }
        for (int[] weather : now.weather) {
            told.add(asNumber(weather));
        }
        for (int k = 0; k < now.ponds.size(); k++) {
            for (int what = 0; what < 12; what++) {
                told.add(pond(k, what));
            }
        }
        for (int k = 0; k < now.flocks.size(); k++) {
            for (int what = 0; what < 6; what++) {
                told.add(flock(k, what));
            }
        }
        long sum = 587;
        for (int x : told) {
            sum = sum * 31 + x;
        }
        return sum;
    }
}
