import java.util.function.Consumer;
import java.util.function.Supplier;

/**
 * Each "Throws" of promises 2 to 19 by a test of its own; "A method that throws an exception changes nothing.";
 * "If several exceptions apply, the one that is named first is thrown." Each refused call is made on downs of
 * its own, which must then be, now and in days to come, as downs on which it was not made.
 */
public final class RefusalsTest {
    private static final Class<IndexOutOfBoundsException> INDEX = IndexOutOfBoundsException.class;
    private static final Class<IllegalArgumentException> ARGUMENT = IllegalArgumentException.class;
    private static final Class<IllegalStateException> STATE = IllegalStateException.class;

    private static final int LEAST = Integer.MIN_VALUE;
    private static final int MOST = Integer.MAX_VALUE;
    private static final int[] NO_POND_OF_4 = {-1, 4, 9, 10, LEAST, MOST};
    private static final int[] NO_FLOCK_OF_3 = {-1, 3, 5, 6, LEAST, MOST};
    private static final int[] NOT_1_TO_100 = {0, 101, -1, LEAST, MOST};
    private static final int[] NOT_1_TO_50 = {0, 51, -1, LEAST, MOST};
    private static final int[] NOT_1_TO_80 = {0, 81, -1, LEAST, MOST};
    private static final int[] NOT_0_TO_9 = {-1, 10, LEAST, MOST};

    public static void main(String[] args) {
        digArguments();
        digPlaceIsTaken();
        digThereAre10();
        digNamedFirst();
        linkNoSuchPond();
        linkNotLower();
        puddleNoSuchPond();
        puddleClay();
        puddleTooMuchWater();
        puddleNamedFirst();
        strewNoSuchPond();
        pourNoSuchPond();
        pourBy();
        pourNamedFirst();
        pondNoSuch();
        setWeatherDay();
        setWeatherArguments();
        setWeatherNamedFirst();
        bringClay();
        bringTooMuch();
        bringNamedFirst();
        addFlockNoSuchPond();
        addFlockSheep();
        addFlockThereAre6();
        addFlockNamedFirst();
        driveNoSuch();
        driveIsLost();
        driveNamedFirst();
        setRoamsNoSuch();
        flockNoSuch();
        passDays();
        countNoSuch();
        foreseeNoSuchPond();
        foreseeDays();
        foreseeNamedFirst();
        lastsNoSuchPond();
        keepNoSuchPond();
        keepDays();
        keepNamedFirst();
        adviseDays();
        Check.end();
    }

    private static void digArguments() {
        Check.sentence("dig: if x or y is not 0 to 40, height is not 0 to 300, size is not 1 to 60, "
                + "or depth is not 1 to 9");
        int[][] wrong = {{-1, 41, LEAST, MOST}, {-1, 41, LEAST, MOST}, {-1, 301, LEAST, MOST},
            {0, 61, -1, LEAST, MOST}, {0, 10, -1, LEAST, MOST}};
        for (int place = 0; place < wrong.length; place++) {
            for (int number : wrong[place]) {
                int[] a = {20, 21, 100, 30, 4};
                a[place] = number;
                refused(ARGUMENT, Made::busy, downs -> dig(downs, a));
            }
        }
    }

    private static void digPlaceIsTaken() {
        Check.sentence("dig: if there is one at this place");
        refused(STATE, Made::busy, downs -> downs.dig(3, 4, 200, 20, 3));
        refused(STATE, Made::busy, downs -> downs.dig(8, 4, 0, 1, 1));
        refused(STATE, Made::busy, downs -> downs.dig(8, 9, 300, 60, 9));
        refused(STATE, Made::busy, downs -> downs.dig(30, 30, 90, 1, 1));
    }

    private static void digThereAre10() {
        Check.sentence("dig: or there are 10");
        refused(STATE, Made::fullHouse, downs -> downs.dig(10, 0, 5, 1, 1));
        refused(STATE, Made::fullHouse, downs -> downs.dig(0, 1, 300, 60, 9));
        refused(STATE, Made::fullHouse, downs -> downs.dig(9, 0, 0, 1, 1));
    }

    private static void digNamedFirst() {
        Check.sentence("dig: IllegalArgumentException, IllegalStateException");
        int[][] wrong = {{3, 4, -1, 1, 1}, {3, 4, 301, 1, 1}, {3, 4, 1, 0, 1}, {3, 4, 1, 61, 1},
            {3, 4, 1, 1, 0}, {3, 4, 1, 1, 10}};
        for (int[] a : wrong) {
            refused(ARGUMENT, Made::busy, downs -> dig(downs, a));
        }
        int[][] eleventh = {{-1, 9, 1, 1, 1}, {9, 41, 1, 1, 1}, {9, 9, -1, 1, 1}, {9, 9, 1, 61, 1},
            {9, 9, 1, 1, 0}, {9, 0, 1, 1, 0}};
        for (int[] a : eleventh) {
            refused(ARGUMENT, Made::fullHouse, downs -> dig(downs, a));
        }
    }

    private static void linkNoSuchPond() {
        Check.sentence("link: if there is no such pond");
        for (int pond : NO_POND_OF_4) {
            refused(INDEX, Made::busy, downs -> downs.link(pond, -1));
            refused(INDEX, Made::busy, downs -> downs.link(pond, 0));
            refused(INDEX, Made::busy, downs -> downs.link(pond, 9));
            if (pond != -1) {
                refused(INDEX, Made::busy, downs -> downs.link(0, pond));
            }
        }
        refused(INDEX, Made::busy, downs -> downs.link(0, -2));
        refused(INDEX, DewPond::new, downs -> downs.link(0, -1));
        refused(INDEX, Made::fullHouse, downs -> downs.link(10, 0));
        refused(INDEX, Made::fullHouse, downs -> downs.link(9, 10));
    }

    private static void linkNotLower() {
        Check.sentence("link: if the other one does not lie lower");
        refused(ARGUMENT, Made::busy, downs -> downs.link(0, 0));
        refused(ARGUMENT, Made::busy, downs -> downs.link(1, 0));
        refused(ARGUMENT, Made::busy, downs -> downs.link(2, 3));
        refused(ARGUMENT, Made::busy, downs -> downs.link(3, 2));
        refused(ARGUMENT, Made::busy, downs -> downs.link(3, 0));
    }

    private static void puddleNoSuchPond() {
        Check.sentence("puddle: if there is no such pond");
        for (int pond : NO_POND_OF_4) {
            refused(INDEX, Made::busy, downs -> downs.puddle(pond, 1));
        }
        refused(INDEX, DewPond::new, downs -> downs.puddle(0, 1));
        refused(INDEX, Made::fullHouse, downs -> downs.puddle(10, 1));
    }

    private static void puddleClay() {
        Check.sentence("puddle: if clay is not 1 to 100");
        for (int clay : NOT_1_TO_100) {
            refused(ARGUMENT, Made::busy, downs -> downs.puddle(1, clay));
        }
    }

    private static void puddleTooMuchWater() {
        Check.sentence("puddle: if its water is more than a quarter (cut) of what it holds");
        refused(STATE, Made::busy, downs -> downs.puddle(0, 1));
        refused(STATE, Made::busy, downs -> downs.puddle(0, 100));
        refused(STATE, RefusalsTest::overAQuarter, downs -> downs.puddle(3, 50));
    }

    private static void puddleNamedFirst() {
        Check.sentence("puddle: IndexOutOfBoundsException, IllegalArgumentException, IllegalStateException");
        for (int clay : NOT_1_TO_100) {
            refused(INDEX, Made::busy, downs -> downs.puddle(4, clay));
            refused(INDEX, Made::busy, downs -> downs.puddle(-1, clay));
            refused(ARGUMENT, Made::busy, downs -> downs.puddle(0, clay));
        }
    }

    private static void strewNoSuchPond() {
        Check.sentence("strew: if there is no such pond");
        for (int pond : NO_POND_OF_4) {
            refused(INDEX, Made::busy, downs -> downs.strew(pond, true));
            refused(INDEX, Made::busy, downs -> downs.strew(pond, false));
        }
        refused(INDEX, DewPond::new, downs -> downs.strew(0, true));
        refused(INDEX, Made::fullHouse, downs -> downs.strew(10, true));
    }

    private static void pourNoSuchPond() {
        Check.sentence("pour: if there is no such pond");
        for (int pond : NO_POND_OF_4) {
            refused(INDEX, Made::busy, downs -> downs.pour(pond, 1));
        }
        refused(INDEX, DewPond::new, downs -> downs.pour(0, 1));
        refused(INDEX, Made::fullHouse, downs -> downs.pour(10, 1));
    }

    private static void pourBy() {
        Check.sentence("pour: if by is not -10000 to 10000");
        int[] wrong = {-10001, 10001, LEAST, MOST};
        for (int by : wrong) {
            refused(ARGUMENT, Made::busy, downs -> downs.pour(1, by));
        }
    }

    private static void pourNamedFirst() {
        Check.sentence("pour: IndexOutOfBoundsException, IllegalArgumentException");
        refused(INDEX, Made::busy, downs -> downs.pour(4, 10001));
        refused(INDEX, Made::busy, downs -> downs.pour(-1, -10001));
    }

    private static void pondNoSuch() {
        Check.sentence("pond: if there is no such pond, or what is not 0 to 11");
        int[] wrong = {-1, 12, LEAST, MOST};
        for (int what : wrong) {
            refused(INDEX, Made::busy, downs -> downs.pond(0, what));
            refused(INDEX, Made::busy, downs -> downs.pond(4, what));
        }
        for (int pond : NO_POND_OF_4) {
            for (int what = 0; what <= 11; what++) {
                int asked = what;
                refused(INDEX, Made::busy, downs -> downs.pond(pond, asked));
            }
        }
        refused(INDEX, DewPond::new, downs -> downs.pond(0, 0));
        refused(INDEX, Made::fullHouse, downs -> downs.pond(10, 0));
    }

    private static void setWeatherDay() {
        Check.sentence("setWeather: if day is not 0 to 9");
        for (int day : NOT_0_TO_9) {
            refused(INDEX, Made::busy, downs -> downs.setWeather(day, 9, 9, 9));
        }
    }

    private static void setWeatherArguments() {
        Check.sentence("setWeather: if mist, rain or sun is not 0 to 9");
        for (int wrong : NOT_0_TO_9) {
            refused(ARGUMENT, Made::busy, downs -> downs.setWeather(2, wrong, 9, 9));
            refused(ARGUMENT, Made::busy, downs -> downs.setWeather(2, 9, wrong, 9));
            refused(ARGUMENT, Made::busy, downs -> downs.setWeather(2, 9, 9, wrong));
        }
    }

    private static void setWeatherNamedFirst() {
        Check.sentence("setWeather: IndexOutOfBoundsException, IllegalArgumentException");
        refused(INDEX, Made::busy, downs -> downs.setWeather(10, 10, 0, 0));
        refused(INDEX, Made::busy, downs -> downs.setWeather(-1, 0, -1, 0));
        refused(INDEX, Made::busy, downs -> downs.setWeather(10, 0, 0, 10));
    }

    private static void bringClay() {
        Check.sentence("bring: if clay is not 1 to 100");
        for (int clay : NOT_1_TO_100) {
            refused(ARGUMENT, Made::busy, downs -> downs.bring(clay));
        }
    }

    private static void bringTooMuch() {
        Check.sentence("bring: if there would be more than 500");
        refused(STATE, Made::fullHouse, downs -> downs.bring(1));
        refused(STATE, Made::fullHouse, downs -> downs.bring(100));
        refused(STATE, RefusalsTest::heapOf450, downs -> downs.bring(51));
        refused(STATE, RefusalsTest::heapOf450, downs -> downs.bring(100));
    }

    private static void bringNamedFirst() {
        Check.sentence("bring: IllegalArgumentException, IllegalStateException");
        refused(ARGUMENT, Made::fullHouse, downs -> downs.bring(101));
        refused(ARGUMENT, Made::fullHouse, downs -> downs.bring(MOST));
    }

    private static void addFlockNoSuchPond() {
        Check.sentence("addFlock: if there is no such pond");
        for (int pond : NO_POND_OF_4) {
            refused(INDEX, Made::busy, downs -> downs.addFlock(pond, 1));
        }
        refused(INDEX, DewPond::new, downs -> downs.addFlock(0, 1));
    }

    private static void addFlockSheep() {
        Check.sentence("addFlock: if sheep is not 1 to 80");
        for (int sheep : NOT_1_TO_80) {
            refused(ARGUMENT, Made::busy, downs -> downs.addFlock(0, sheep));
        }
    }

    private static void addFlockThereAre6() {
        Check.sentence("addFlock: if there are 6");
        refused(STATE, Made::fullHouse, downs -> downs.addFlock(0, 1));
        refused(STATE, Made::fullHouse, downs -> downs.addFlock(9, 80));
    }

    private static void addFlockNamedFirst() {
        Check.sentence("addFlock: IndexOutOfBoundsException, IllegalArgumentException, IllegalStateException");
        for (int sheep : NOT_1_TO_80) {
            refused(INDEX, Made::busy, downs -> downs.addFlock(4, sheep));
            refused(ARGUMENT, Made::fullHouse, downs -> downs.addFlock(0, sheep));
            refused(INDEX, Made::fullHouse, downs -> downs.addFlock(10, sheep));
        }
        refused(INDEX, Made::fullHouse, downs -> downs.addFlock(10, 1));
        refused(INDEX, Made::fullHouse, downs -> downs.addFlock(-1, 1));
    }

    private static void driveNoSuch() {
        Check.sentence("drive: if there is no such flock or pond");
        for (int flock : NO_FLOCK_OF_3) {
            refused(INDEX, Made::busy, downs -> downs.drive(flock, 0));
            refused(INDEX, Made::busy, downs -> downs.drive(flock, 4));
        }
        for (int pond : NO_POND_OF_4) {
            refused(INDEX, Made::busy, downs -> downs.drive(0, pond));
        }
        refused(INDEX, DewPond::new, downs -> downs.drive(0, 0));
        refused(INDEX, Made::fullHouse, downs -> downs.drive(6, 0));
        refused(INDEX, Made::fullHouse, downs -> downs.drive(5, 10));
    }

    private static void driveIsLost() {
        Check.sentence("drive: if the flock is lost");
        for (int pond = 0; pond < 4; pond++) {
            int goal = pond;
            refused(STATE, Made::busy, downs -> downs.drive(2, goal));
        }
    }

    private static void driveNamedFirst() {
        Check.sentence("drive: IndexOutOfBoundsException, IllegalStateException");
        for (int pond : NO_POND_OF_4) {
            refused(INDEX, Made::busy, downs -> downs.drive(2, pond));
        }
    }

    private static void setRoamsNoSuch() {
        Check.sentence("setRoams: if there is no such flock");
        for (int flock : NO_FLOCK_OF_3) {
            refused(INDEX, Made::busy, downs -> downs.setRoams(flock, true));
            refused(INDEX, Made::busy, downs -> downs.setRoams(flock, false));
        }
        refused(INDEX, Made::fullHouse, downs -> downs.setRoams(6, true));
    }

    private static void flockNoSuch() {
        Check.sentence("flock: if there is no such flock, or what is not 0 to 5");
        int[] wrong = {-1, 6, LEAST, MOST};
        for (int what : wrong) {
            refused(INDEX, Made::busy, downs -> downs.flock(0, what));
            refused(INDEX, Made::busy, downs -> downs.flock(3, what));
        }
        for (int flock : NO_FLOCK_OF_3) {
            for (int what = 0; what <= 5; what++) {
                int asked = what;
                refused(INDEX, Made::busy, downs -> downs.flock(flock, asked));
            }
        }
        refused(INDEX, DewPond::new, downs -> downs.flock(0, 0));
        refused(INDEX, Made::fullHouse, downs -> downs.flock(6, 0));
    }

    private static void passDays() {
        Check.sentence("pass: if days is not 1 to 100");
        for (int days : NOT_1_TO_100) {
            refused(ARGUMENT, Made::busy, downs -> downs.pass(days));
        }
    }

    private static void countNoSuch() {
        Check.sentence("count: if what is not 0 to 7");
        int[] wrong = {-1, 8, LEAST, MOST};
        for (int what : wrong) {
            refused(INDEX, Made::busy, downs -> downs.count(what));
        }
    }

    private static void foreseeNoSuchPond() {
        Check.sentence("foresee: if there is no such pond");
        for (int pond : NO_POND_OF_4) {
            refused(INDEX, Made::busy, downs -> downs.foresee(pond, 1));
        }
        refused(INDEX, DewPond::new, downs -> downs.foresee(0, 1));
    }

    private static void foreseeDays() {
        Check.sentence("foresee: if days is not 1 to 100");
        for (int days : NOT_1_TO_100) {
            refused(ARGUMENT, Made::busy, downs -> downs.foresee(0, days));
        }
    }

    private static void foreseeNamedFirst() {
        Check.sentence("foresee: IndexOutOfBoundsException, IllegalArgumentException");
        for (int days : NOT_1_TO_100) {
            refused(INDEX, Made::busy, downs -> downs.foresee(4, days));
            refused(INDEX, Made::busy, downs -> downs.foresee(-1, days));
        }
    }

    private static void lastsNoSuchPond() {
        Check.sentence("lasts: if there is no such pond");
        for (int pond : NO_POND_OF_4) {
            refused(INDEX, Made::busy, downs -> downs.lasts(pond));
        }
        refused(INDEX, DewPond::new, downs -> downs.lasts(0));
        refused(INDEX, Made::fullHouse, downs -> downs.lasts(10));
    }

    private static void keepNoSuchPond() {
        Check.sentence("keep: if there is no such pond");
        for (int pond : NO_POND_OF_4) {
            refused(INDEX, Made::busy, downs -> downs.keep(pond, 1));
        }
        refused(INDEX, DewPond::new, downs -> downs.keep(0, 1));
        refused(INDEX, Made::fullHouse, downs -> downs.keep(10, 1));
    }

    private static void keepDays() {
        Check.sentence("keep: if days is not 1 to 50");
        for (int days : NOT_1_TO_50) {
            refused(ARGUMENT, Made::busy, downs -> downs.keep(0, days));
        }
    }

    private static void keepNamedFirst() {
        Check.sentence("keep: IndexOutOfBoundsException, IllegalArgumentException");
        for (int days : NOT_1_TO_50) {
            refused(INDEX, Made::busy, downs -> downs.keep(4, days));
            refused(INDEX, Made::busy, downs -> downs.keep(-1, days));
        }
    }

    private static void adviseDays() {
        Check.sentence("advise: if days is not 1 to 50");
        for (int days : NOT_1_TO_50) {
            refused(ARGUMENT, Made::busy, downs -> downs.advise(days));
            refused(ARGUMENT, DewPond::new, downs -> downs.advise(days));
        }
    }

    private static void dig(DewPond downs, int[] a) {
        downs.dig(a[0], a[1], a[2], a[3], a[4]);
    }

    /** Busy downs in which pond 3, that holds 10, has 3, and the heap is empty. */
    private static DewPond overAQuarter() {
        DewPond downs = Made.busy();
        downs.puddle(1, 50);
        downs.pour(3, 3);
        return downs;
    }

    private static DewPond heapOf450() {
        DewPond downs = Made.busy();
        for (int k = 0; k < 4; k++) {
            downs.bring(100);
        }
        return downs;
    }

    private static void refused(Class<? extends RuntimeException> kind, Supplier<DewPond> making,
            Consumer<DewPond> call) {
        DewPond told = making.get();
        DewPond untold = making.get();
        String at = " (line " + lineOfTheTest() + ")";
        String thrown = thrownBy(told, call);
        Check.due("thrown is " + thrown + ", due is " + kind.getName() + at, thrown.equals(kind.getName()), true);
        Check.due("the digest behind it" + at, told.digest(), untold.digest());
        ahead(told, untold, at);
        later(told, untold, at);
    }

    private static String thrownBy(DewPond downs, Consumer<DewPond> call) {
        try {
            call.accept(downs);
            return "nothing";
        } catch (RuntimeException thrown) {
            return thrown.getClass().getName();
        }
    }

    private static int lineOfTheTest() {
        return new Throwable().getStackTrace()[2].getLineNumber();
    }

    private static void ahead(DewPond told, DewPond untold, String at) {
        for (int pond = 0; pond < untold.count(1); pond++) {
            Check.due("foresee behind it" + at, told.foresee(pond, 30), untold.foresee(pond, 30));
            Check.due("lasts behind it" + at, told.lasts(pond), untold.lasts(pond));
            Check.due("keep behind it" + at, told.keep(pond, 3), untold.keep(pond, 3));
        }
        Check.due("advise behind it" + at, told.advise(9), untold.advise(9));
    }

    /** What is done later has the same answers, as far as it is not refused. */
    private static void later(DewPond told, DewPond untold, String at) {
        for (int days = 1; days <= 21; days += 10) {
            Check.due("pass behind it" + at, told.pass(days), untold.pass(days));
            Check.due("the digest then" + at, told.digest(), untold.digest());
        }
        if (untold.count(1) < 10) {
            Check.due("dig behind it" + at, told.dig(40, 40, 120, 9, 2), untold.dig(40, 40, 120, 9, 2));
            told.pour(told.count(1) - 1, 180);
            untold.pour(untold.count(1) - 1, 180);
        }
        if (untold.count(1) > 0 && untold.count(2) < 6) {
            Check.due("addFlock behind it" + at, told.addFlock(0, 5), untold.addFlock(0, 5));
        }
        told.setWeather(3, 9, 9, 0);
        untold.setWeather(3, 9, 9, 0);
        Check.due("pass at last" + at, told.pass(17), untold.pass(17));
        Check.due("the digest at last" + at, told.digest(), untold.digest());
    }
}
