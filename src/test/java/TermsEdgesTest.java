/** "What it is" and "Terms": each sentence that names an edge, by a test of its own. */
public final class TermsEdgesTest {
    public static void main(String[] args) {
        upTo512Calls();
        quotientsAreCut();
        timeFrom0();
        atMost10Ponds();
        placesFrom0To40();
        heightsFrom0To300();
        sizesFrom1To60();
        depthsFrom1To9();
        holdsSizeTimesDepthTimes10();
        waterIs0AtFirst();
        liningIs0AtFirst();
        liningUpTo100();
        liningDownTo0();
        noStrawAtFirst();
        runsIntoALowerOne();
        runsIntoNoneAtFirst();
        distanceWithoutSigns();
        weatherFrom0To9();
        weatherIs0AtFirst();
        weatherByRemainder();
        atMost6Flocks();
        sheepFrom1To80();
        thirstIs0AtFirst();
        thirstUpTo10();
        staysAtFirst();
        lostWith10();
        notLostWith9();
        lostDrinksNoMore();
        lostDoesNothing();
        lostIsStillAFlock();
        heapIs100AtFirst();
        heapDownTo0();
        heapUpTo500();
        Check.end();
    }

    private static void upTo512Calls() {
        Check.sentence("An object is used for at most 512 calls after it has been made");
        DewPond downs = new DewPond();
        downs.dig(0, 0, 300, 60, 1);
        downs.puddle(0, 100);
        downs.pour(0, 600);
        downs.setWeather(0, 9, 9, 0);
        for (int call = 5; call <= 510; call++) {
            downs.pass(100);
        }
        Check.due("call 511: the day", downs.count(0), 50600);
        Check.due("call 512: it has run over on each 10th day", downs.pond(0, 10), 5060 * 540);
    }

    private static void quotientsAreCut() {
        Check.sentence("All numbers are whole, and / is cut towards 0.");
        Check.due("mist: 3 / 4", behindADay(0, 3, 10, 1, 0, 0, false), 10);
        Check.due("mist: 7 / 4", behindADay(0, 7, 10, 1, 0, 0, false), 11);
        Check.due("mist: 8 / 4", behindADay(0, 8, 10, 1, 0, 0, false), 12);
        Check.due("rain: 1 / 2", behindADay(0, 1, 10, 0, 1, 0, false), 10);
        Check.due("rain: 3 / 2", behindADay(0, 3, 10, 0, 1, 0, false), 11);
        Check.due("sun: 4 / 5", behindADay(0, 4, 10, 0, 0, 1, false), 10);
        Check.due("sun: 9 / 5", behindADay(0, 9, 10, 0, 0, 1, false), 9);
        Check.due("sun: 10 / 5", behindADay(0, 10, 10, 0, 0, 1, false), 8);
        Check.due("straw: a half of 9 / 5", behindADay(0, 9, 10, 0, 0, 1, true), 10);
        Check.due("straw: a half of 19 / 5", behindADay(0, 19, 10, 0, 0, 1, true), 9);
        DewPond leaks = Made.oneLined(0, 1);
        leaks.pass(1);
        Check.due("leaks: 1 * 100 / 200", leaks.pond(0, 5), 1);
        leaks.pour(0, 2);
        leaks.pass(1);
        Check.due("leaks: 3 * 100 / 200", leaks.pond(0, 5), 2);
        Check.due("treading: 9 / 10", liningBehindADay(50, 9), 50);
        Check.due("treading: 10 / 10", liningBehindADay(50, 10), 49);
        Check.due("treading: 19 / 10", liningBehindADay(50, 19), 49);
    }

    private static void timeFrom0() {
        Check.sentence("Time is told in days, from 0.");
        DewPond downs = new DewPond();
        Check.due("at first", downs.count(0), 0);
        downs.pass(1);
        Check.due("behind a day", downs.count(0), 1);
    }

    private static void atMost10Ponds() {
        Check.sentence("There are at most 10, numbered from 0 in the order of their digging");
        DewPond downs = new DewPond();
        for (int k = 0; k < 10; k++) {
            Check.due("dig", downs.dig(40 - k, k, 30 * k, 1, 1), k);
        }
        Check.illegalState("an 11th", downs, () -> downs.dig(0, 40, 0, 1, 1));
        Check.due("ponds", downs.count(1), 10);
        for (int k = 0; k < 10; k++) {
            Check.due("x of pond " + k, downs.pond(k, 0), 40 - k);
            Check.due("y of pond " + k, downs.pond(k, 1), k);
        }
        Check.outOfBounds("pond 10", downs, () -> downs.pond(10, 0));
    }

    private static void placesFrom0To40() {
        Check.sentence("each at a place x, y, 0 to 40 each");
        DewPond downs = new DewPond();
        int[][] corners = {{0, 0}, {0, 40}, {40, 0}, {40, 40}};
        for (int k = 0; k < corners.length; k++) {
            downs.dig(corners[k][0], corners[k][1], 0, 1, 1);
            Check.due("x", downs.pond(k, 0), corners[k][0]);
            Check.due("y", downs.pond(k, 1), corners[k][1]);
        }
        int[] wrong = {-1, 41, Integer.MIN_VALUE, Integer.MAX_VALUE};
        for (int place : wrong) {
            Check.illegalArgument("x " + place, downs, () -> downs.dig(place, 20, 0, 1, 1));
            Check.illegalArgument("y " + place, downs, () -> downs.dig(20, place, 0, 1, 1));
        }
    }

    private static void heightsFrom0To300() {
        Check.sentence("a height, 0 to 300");
        DewPond downs = new DewPond();
        downs.dig(0, 0, 0, 1, 1);
        downs.dig(1, 0, 300, 1, 1);
        Check.due("the least", downs.pond(0, 2), 0);
        Check.due("the most", downs.pond(1, 2), 300);
        int[] wrong = {-1, 301, Integer.MIN_VALUE, Integer.MAX_VALUE};
        for (int height : wrong) {
            Check.illegalArgument("height " + height, downs, () -> downs.dig(2, 0, height, 1, 1));
        }
    }

    private static void sizesFrom1To60() {
        Check.sentence("a size, 1 to 60");
        DewPond downs = new DewPond();
        downs.dig(0, 0, 0, 1, 1);
        downs.dig(1, 0, 0, 60, 1);
        Check.due("the least", downs.pond(0, 3), 1);
        Check.due("the most", downs.pond(1, 3), 60);
        int[] wrong = {0, 61, -1, Integer.MIN_VALUE, Integer.MAX_VALUE};
        for (int size : wrong) {
            Check.illegalArgument("size " + size, downs, () -> downs.dig(2, 0, 0, size, 1));
        }
    }

    private static void depthsFrom1To9() {
        Check.sentence("a depth, 1 to 9");
        DewPond downs = new DewPond();
        downs.dig(0, 0, 0, 1, 1);
        downs.dig(1, 0, 0, 1, 9);
        Check.due("the least", downs.pond(0, 4), 10);
        Check.due("the most", downs.pond(1, 4), 90);
        int[] wrong = {0, 10, -1, Integer.MIN_VALUE, Integer.MAX_VALUE};
        for (int depth : wrong) {
            Check.illegalArgument("depth " + depth, downs, () -> downs.dig(2, 0, 0, 1, depth));
        }
    }

    private static void holdsSizeTimesDepthTimes10() {
        Check.sentence("It holds size * depth * 10 of water at most");
        DewPond downs = Made.oneTight(0, 7, 3, 209);
        Check.due("what it holds", downs.pond(0, 4), 210);
        Check.due("one less", downs.pond(0, 5), 209);
        Check.due("full", downs.pour(0, 1), 210);
        Check.due("poured over", downs.pour(0, 1), 210);
        downs.setWeather(0, 0, 1, 0);
        downs.pass(1);
        Check.due("rained over", downs.pond(0, 5), 210);
    }

    private static void waterIs0AtFirst() {
        Check.sentence("its water is 0 at first");
        DewPond downs = new DewPond();
        downs.dig(0, 0, 300, 60, 9);
        Check.due("water", downs.pond(0, 5), 0);
    }

    private static void liningIs0AtFirst() {
        Check.sentence("its lining 0, at first");
        DewPond downs = new DewPond();
        downs.dig(0, 0, 300, 60, 9);
        Check.due("lining", downs.pond(0, 6), 0);
    }

    private static void liningUpTo100() {
        Check.sentence("its lining 0, at first, 0 to 100");
        DewPond downs = Made.oneLined(99, 0);
        downs.bring(100);
        Check.due("99 and 2", downs.puddle(0, 2), 1);
        Check.due("at most 100", downs.pond(0, 6), 100);
    }

    private static void liningDownTo0() {
        Check.sentence("its lining 0, at first, 0 to 100");
        Check.due("9 less 8", liningBehindADay(9, 80), 1);
        Check.due("8 less 8", liningBehindADay(8, 80), 0);
        Check.due("7 less 8", liningBehindADay(7, 80), 0);
        Check.due("0 less 8", liningBehindADay(0, 80), 0);
    }

    private static void noStrawAtFirst() {
        Check.sentence("it has straw, or not (not, at first)");
        DewPond downs = new DewPond();
        downs.dig(0, 0, 300, 60, 9);
        Check.due("straw", downs.pond(0, 7), 0);
        Check.due("whether it had", downs.strew(0, true), false);
    }

    private static void runsIntoALowerOne() {
        Check.sentence("It can run over into one other pond that lies lower");
        DewPond downs = new DewPond();
        downs.dig(0, 0, 101, 1, 1);
        downs.dig(1, 0, 100, 1, 1);
        downs.dig(2, 0, 100, 1, 1);
        Check.due("lower by 1", downs.link(0, 1), -1);
        Check.due("into one alone", downs.link(0, 2), 1);
        Check.due("the later one", downs.pond(0, 8), 2);
        Check.illegalArgument("as high", downs, () -> downs.link(1, 2));
        Check.illegalArgument("higher by 1", downs, () -> downs.link(1, 0));
        Check.illegalArgument("itself", downs, () -> downs.link(0, 0));
    }

    private static void runsIntoNoneAtFirst() {
        Check.sentence("or into none (none, at first)");
        DewPond downs = new DewPond();
        downs.dig(0, 0, 101, 1, 1);
        downs.dig(1, 0, 100, 1, 1);
        Check.due("of the higher one", downs.pond(0, 8), -1);
        Check.due("of the lower one", downs.pond(1, 8), -1);
    }

    private static void distanceWithoutSigns() {
        Check.sentence("The distance of two ponds is the differences of x and of y, without their signs, added.");
        int[][] others = {{20, 20}, {23, 24}, {17, 24}, {23, 16}, {17, 16},
            {20, 40}, {0, 20}, {0, 0}, {40, 40}, {0, 40}};
        int[] due = {0, 7, 7, 7, 7, 20, 20, 40, 40, 40};
        DewPond downs = new DewPond();
        for (int[] place : others) {
            downs.dig(place[0], place[1], 0, 1, 1);
        }
        downs.addFlock(0, 1);
        for (int k = 0; k < others.length; k++) {
            Check.due("to pond " + k, downs.drive(0, k), due[k]);
            Check.due("back from pond " + k, downs.drive(0, 0), due[k]);
        }
        downs.drive(0, 7);
        Check.due("the farthest", downs.drive(0, 8), 80);
    }

    private static void weatherFrom0To9() {
        Check.sentence("A table tells for each of 10 days mist, rain and sun, 0 to 9 each");
        DewPond downs = new DewPond();
        for (int day = 0; day < 10; day++) {
            downs.setWeather(day, 9, 9, 9);
            Check.due("the most, day " + day, downs.setWeather(day, 0, 0, 0), 999);
            Check.due("the least, day " + day, downs.setWeather(day, 1, 2, 3), 0);
        }
        int[] wrong = {-1, 10, Integer.MIN_VALUE, Integer.MAX_VALUE};
        for (int weather : wrong) {
            Check.illegalArgument("mist " + weather, downs, () -> downs.setWeather(4, weather, 5, 5));
            Check.illegalArgument("rain " + weather, downs, () -> downs.setWeather(4, 5, weather, 5));
            Check.illegalArgument("sun " + weather, downs, () -> downs.setWeather(4, 5, 5, weather));
        }
    }

    private static void weatherIs0AtFirst() {
        Check.sentence("mist, rain and sun, 0 to 9 each (0, at first)");
        DewPond downs = Made.oneTight(300, 60, 9, 100);
        downs.pass(10);
        Check.due("10 days change nothing", downs.pond(0, 5), 100);
        for (int day = 0; day < 10; day++) {
            Check.due("day " + day, downs.setWeather(day, 9, 9, 9), 0);
        }
    }

    private static void weatherByRemainder() {
        Check.sentence("on the day d it is that with the number d by the remainder of 10");
        DewPond downs = Made.oneTight(0, 2, 9, 0);
        for (int day = 0; day < 10; day++) {
            downs.setWeather(day, 0, day, 0);
        }
        int water = 0;
        for (int day = 0; day < 20; day++) {
            downs.pass(1);
            water += day % 10;
            Check.due("behind day " + day, downs.pond(0, 5), water);
        }
        downs.pass(80);
        Made.fill(downs, 0, 0);
        downs.pass(1);
        Check.due("behind day 100", downs.pond(0, 5), 0);
        downs.pass(1);
        Check.due("behind day 101", downs.pond(0, 5), 1);
        downs.pass(8);
        Check.due("behind day 109", downs.pond(0, 5), 45);
    }

    private static void atMost6Flocks() {
        Check.sentence("There are at most 6, numbered likewise");
        DewPond downs = Made.oneTight(0, 60, 9, 5000);
        for (int k = 0; k < 6; k++) {
            Check.due("addFlock", downs.addFlock(0, 60 - k), k);
        }
        Check.illegalState("a 7th", downs, () -> downs.addFlock(0, 1));
        Check.due("flocks", downs.count(2), 6);
        for (int k = 0; k < 6; k++) {
            Check.due("sheep of flock " + k, downs.flock(k, 0), 60 - k);
        }
        Check.outOfBounds("flock 6", downs, () -> downs.flock(6, 0));
    }

    private static void sheepFrom1To80() {
        Check.sentence("each has sheep, 1 to 80");
        DewPond downs = Made.oneTight(0, 60, 9, 5000);
        downs.addFlock(0, 1);
        downs.addFlock(0, 80);
        Check.due("the least", downs.flock(0, 0), 1);
        Check.due("the most", downs.flock(1, 0), 80);
        int[] wrong = {0, 81, -1, Integer.MIN_VALUE, Integer.MAX_VALUE};
        for (int sheep : wrong) {
            Check.illegalArgument("sheep " + sheep, downs, () -> downs.addFlock(0, sheep));
        }
    }

    private static void thirstIs0AtFirst() {
        Check.sentence("has thirst, 0 to 10 (0, at first)");
        DewPond downs = Made.oneTight(0, 60, 9, 0);
        downs.addFlock(0, 1);
        Check.due("thirst", downs.flock(0, 2), 0);
        downs.pass(1);
        downs.addFlock(0, 1);
        Check.due("thirst of a later one", downs.flock(1, 2), 0);
    }

    private static void thirstUpTo10() {
        Check.sentence("has thirst, 0 to 10 (0, at first)");
        DewPond downs = Made.oneTight(0, 60, 9, 0);
        downs.addFlock(0, 1);
        int[] due = {3, 6, 9, 10, 10, 10};
        for (int day = 0; day < due.length; day++) {
            downs.pass(1);
            Check.due("thirst behind dry day " + day, downs.flock(0, 2), due[day]);
        }
        DewPond wet = Made.oneTight(0, 60, 9, 1000);
        wet.addFlock(0, 1);
        wet.pass(3);
        Check.due("thirst with enough water", wet.flock(0, 2), 0);
    }

    private static void staysAtFirst() {
        Check.sentence("A flock roams, or stays (it stays, at first).");
        DewPond downs = Made.oneTight(0, 60, 9, 0);
        Made.tight(downs, 1, 0, 60, 9, 5000);
        downs.addFlock(0, 1);
        Check.due("roams", downs.flock(0, 3), 0);
        downs.pass(3);
        Check.due("where it is, for all its thirst", downs.flock(0, 1), 0);
        Check.due("whether it did", downs.setRoams(0, false), false);
    }

    private static void lostWith10() {
        Check.sentence("With a thirst of 10 at the end of a day it is lost");
        DewPond over = Made.oneTight(0, 60, 9, 0);
        over.addFlock(0, 1);
        over.pass(4);
        Check.due("9 and 3: thirst", over.flock(0, 2), 10);
        Check.due("9 and 3: lost", over.flock(0, 4), 1);

        DewPond just = Made.oneTight(0, 60, 9, 0);
        just.addFlock(0, 1);
        just.pass(3);
        just.pour(0, 2);
        just.pass(1);
        Check.due("9 less 2", just.flock(0, 2), 7);
        just.pass(1);
        Check.due("7 and 3: thirst", just.flock(0, 2), 10);
        Check.due("7 and 3: lost", just.flock(0, 4), 1);
    }

    private static void notLostWith9() {
        Check.sentence("With a thirst of 10 at the end of a day it is lost");
        DewPond downs = Made.oneTight(0, 60, 9, 0);
        downs.addFlock(0, 1);
        downs.pass(3);
        Check.due("thirst", downs.flock(0, 2), 9);
        Check.due("lost", downs.flock(0, 4), 0);
        downs.pour(0, 2);
        Check.due("it drinks yet", downs.pass(1), 2);
        Check.due("thirst is less", downs.flock(0, 2), 7);
    }

    private static void lostDrinksNoMore() {
        Check.sentence("it drinks no more, and does nothing (its thirst stays 10)");
        DewPond downs = lostAtPond0();
        downs.bring(100);
        downs.puddle(0, 100);
        downs.pour(0, 1000);
        Check.due("what is drunk", downs.pass(10), 0);
        Check.due("water", downs.pond(0, 5), 1000);
        Check.due("thirst", downs.flock(0, 2), 10);
        Check.due("what it has drunk in all", downs.flock(0, 5), 1);
        Check.due("lost", downs.flock(0, 4), 1);
    }

    private static void lostDoesNothing() {
        Check.sentence("it drinks no more, and does nothing (its thirst stays 10)");
        DewPond downs = lostAtPond0();
        Made.tight(downs, 1, 0, 60, 9, 1000);
        downs.setRoams(0, true);
        int lining = downs.pond(0, 6);
        downs.pass(5);
        Check.due("it does not roam", downs.flock(0, 1), 0);
        Check.due("it does not tread", downs.pond(0, 6), lining);
        Check.due("it is not counted there", downs.pond(0, 9), 0);
        Check.illegalState("it is not driven", downs, () -> downs.drive(0, 1));
    }

    private static void lostIsStillAFlock() {
        Check.sentence("There are at most 6, numbered likewise");
        DewPond downs = lostAtPond0();
        Check.due("flocks", downs.count(2), 1);
        Check.due("the next number", downs.addFlock(0, 1), 1);
        for (int k = 2; k < 6; k++) {
            downs.addFlock(0, 1);
        }
        Check.illegalState("a 7th beside a lost one", downs, () -> downs.addFlock(0, 1));
    }

    private static void heapIs100AtFirst() {
        Check.sentence("There is a heap, 0 to 500 (100, at first).");
        Check.due("clay", new DewPond().count(4), 100);
    }

    private static void heapDownTo0() {
        Check.sentence("There is a heap, 0 to 500 (100, at first).");
        DewPond downs = new DewPond();
        downs.dig(0, 0, 0, 1, 1);
        downs.dig(1, 0, 0, 1, 1);
        downs.puddle(0, 99);
        Check.due("all but 1", downs.count(4), 1);
        Check.due("2 of 1", downs.puddle(1, 2), 1);
        Check.due("none is left", downs.count(4), 0);
        Check.due("1 of 0", downs.puddle(1, 1), 0);
        Check.due("none at least", downs.count(4), 0);
    }

    private static void heapUpTo500() {
        Check.sentence("There is a heap, 0 to 500 (100, at first).");
        DewPond downs = new DewPond();
        for (int k = 0; k < 3; k++) {
            downs.bring(100);
        }
        Check.due("499", downs.bring(99), 499);
        Check.illegalState("501", downs, () -> downs.bring(2));
        Check.due("500", downs.bring(1), 500);
        Check.illegalState("1 more", downs, () -> downs.bring(1));
        Check.due("500 yet", downs.count(4), 500);
    }

    /** The water of a pond of the depth 9, that does not leak, behind one day. */
    private static int behindADay(int height, int size, int water, int mist, int rain, int sun, boolean isStrewn) {
        DewPond downs = Made.oneTight(height, size, 9, water);
        downs.strew(0, isStrewn);
        downs.setWeather(0, mist, rain, sun);
        downs.pass(1);
        return downs.pond(0, 5);
    }

    private static int liningBehindADay(int lining, int sheep) {
        DewPond downs = Made.oneLined(lining, 1000);
        downs.addFlock(0, sheep);
        downs.pass(1);
        return downs.pond(0, 6);
    }

    /** A dry pond with a lost flock of 30 sheep that has drunk 1. */
    private static DewPond lostAtPond0() {
        DewPond downs = Made.oneTight(0, 60, 9, 1);
        downs.addFlock(0, 30);
        downs.pass(4);
        return downs;
    }
}
