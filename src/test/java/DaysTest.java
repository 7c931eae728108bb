/** Promises 14 and 15, pass and count, with the seven steps of a day. */
public final class DaysTest {
    public static void main(String[] args) {
        step1Mist();
        step2Rain();
        weatherByRemainder();
        step3Drinking();
        step3ByNumbers();
        step3Treading();
        step3Lost();
        step3Roaming();
        step3RoamingStays();
        step3RoamingSeesMistAndEarlierFlocks();
        step4Sun();
        step5Leaks();
        step6RunningOver();
        step6HigherFirst();
        step7Straw();
        stepOrder();
        promise14Pass();
        promise15Count();
        promise15CountOfAFullHouse();
        Check.end();
    }

    private static void step1Mist() {
        DewPond downs = new DewPond();
        downs.bring(100);
        lined(downs, 0, 150, 7, 9);
        lined(downs, 1, 149, 7, 9);
        downs.setWeather(0, 1, 0, 0);
        downs.setWeather(1, 9, 0, 0);
        downs.pass(1);
        Check.due("mist on a height of 150: the cut number twice", downs.pond(0, 5), 2);
        Check.due("mist on a height of 149", downs.pond(1, 5), 1);
        downs.pass(1);
        Check.due("mist 9 on a height of 150", downs.pond(0, 5), 32);
        Check.due("mist 9 on a height of 149", downs.pond(1, 5), 16);
    }

    private static void step2Rain() {
        DewPond downs = new DewPond();
        downs.bring(100);
        lined(downs, 0, 150, 7, 9);
        lined(downs, 1, 149, 7, 9);
        downs.setWeather(0, 0, 3, 0);
        downs.pass(1);
        Check.due("rain on a high pond is not doubled", downs.pond(0, 5), 10);
        Check.due("rain on a low pond", downs.pond(1, 5), 10);
    }

    private static void weatherByRemainder() {
        DewPond downs = new DewPond();
        lined(downs, 0, 0, 60, 9);
        downs.setWeather(3, 0, 1, 0);
        downs.pass(3);
        Check.due("before day 3", downs.pond(0, 5), 0);
        downs.pass(1);
        Check.due("behind day 3", downs.pond(0, 5), 30);
        downs.pass(9);
        Check.due("before day 13", downs.pond(0, 5), 30);
        downs.pass(1);
        Check.due("behind day 13", downs.pond(0, 5), 60);
        downs.pass(90);
        Check.due("behind day 103", downs.pond(0, 5), 330);
    }

    private static void step3Drinking() {
        DewPond downs = new DewPond();
        lined(downs, 0, 0, 10, 9);
        downs.pour(0, 50);
        downs.addFlock(0, 9);
        Check.due("drinks 2 a sheep", downs.pass(1), 18);
        Check.due("no thirst", downs.flock(0, 2), 0);
        downs.pass(1);
        Check.due("drinks all that there is", downs.pass(1), 14);
        Check.due("thirst 3", downs.flock(0, 2), 3);
        Check.due("nothing is left", downs.pond(0, 5), 0);
        Check.due("an empty pond", downs.pass(1), 0);
        Check.due("thirst 6", downs.flock(0, 2), 6);
        downs.pour(0, 40);
        downs.pass(1);
        Check.due("thirst 4", downs.flock(0, 2), 4);
        downs.pass(1);
        Check.due("thirst 2", downs.flock(0, 2), 2);
        downs.pour(0, 14);
        downs.pass(1);
        Check.due("just enough: thirst 0", downs.flock(0, 2), 0);
        Check.due("just enough: nothing is left", downs.pond(0, 5), 0);
        downs.pass(1);
        downs.pour(0, 36);
        downs.pass(2);
        Check.due("thirst 3, 1, 0", downs.flock(0, 2), 0);
        Check.due("has drunk in all", downs.flock(0, 5), 50 + 40 + 14 + 36);
    }

    private static void step3ByNumbers() {
        DewPond downs = new DewPond();
        lined(downs, 0, 0, 10, 9);
        downs.pour(0, 30);
        downs.addFlock(0, 9);
        downs.addFlock(0, 9);
        downs.addFlock(0, 9);
        Check.due("three drink", downs.pass(1), 30);
        Check.due("the first", downs.flock(0, 5), 18);
        Check.due("the second", downs.flock(1, 5), 12);
        Check.due("the third", downs.flock(2, 5), 0);
        Check.due("the first's thirst", downs.flock(0, 2), 0);
        Check.due("the second's thirst", downs.flock(1, 2), 3);
    }

    private static void step3Treading() {
        DewPond downs = new DewPond();
        downs.dig(0, 0, 0, 60, 9);
        downs.dig(1, 0, 0, 60, 9);
        downs.dig(2, 0, 0, 60, 9);
        downs.puddle(0, 20);
        downs.puddle(1, 20);
        downs.puddle(2, 20);
        downs.strew(1, true);
        downs.addFlock(0, 79);
        downs.addFlock(1, 79);
        downs.addFlock(2, 9);
        downs.pour(0, 5000);
        downs.pour(1, 5000);
        downs.pour(2, 5000);
        downs.pass(1);
        Check.due("79 sheep tread", downs.pond(0, 6), 13);
        Check.due("not under straw", downs.pond(1, 6), 20);
        Check.due("9 sheep do not", downs.pond(2, 6), 20);
        downs.pass(2);
        Check.due("at least 0", downs.pond(0, 6), 0);
        DewPond dry = new DewPond();
        dry.dig(0, 0, 0, 60, 9);
        dry.puddle(0, 20);
        dry.addFlock(0, 40);
        dry.pass(1);
        Check.due("they tread a dry pond too", dry.pond(0, 6), 16);
    }

    private static void step3Lost() {
        DewPond downs = new DewPond();
        lined(downs, 0, 0, 60, 9);
        downs.addFlock(0, 40);
        downs.pass(3);
        Check.due("thirst 9", downs.flock(0, 2), 9);
        Check.due("not lost with 9", downs.flock(0, 4), 0);
        downs.pass(1);
        Check.due("thirst at most 10", downs.flock(0, 2), 10);
        Check.due("lost", downs.flock(0, 4), 1);
        Check.due("lining", downs.pond(0, 6), 84);
        downs.pour(0, 1000);
        downs.setRoams(0, true);
        Check.due("a lost one drinks no more", downs.pass(5), 0);
        Check.due("its thirst stays", downs.flock(0, 2), 10);
        Check.due("it treads no more", downs.pond(0, 6), 84);
        Check.due("count(3)", downs.count(3), 1);
    }

    private static void step3Roaming() {
        DewPond downs = new DewPond();
        downs.dig(20, 20, 0, 10, 9);
        downs.dig(20, 25, 0, 10, 9);
        downs.dig(17, 19, 0, 10, 9);
        downs.dig(22, 22, 0, 10, 9);
        downs.dig(20, 23, 0, 10, 9);
        downs.addFlock(0, 10);
        downs.setRoams(0, true);
        downs.pour(1, 100);
        downs.pour(2, 100);
        downs.pour(3, 100);
        downs.pour(4, 19);
        Check.due("without thirst it stays", downs.pass(1), 0);
        Check.due("where it is", downs.flock(0, 1), 0);
        Check.due("with thirst it goes", downs.pass(1), 20);
        Check.due("to the nearest with enough, of several the first", downs.flock(0, 1), 2);
        downs.pour(2, -10000);
        downs.pour(1, -10000);
        downs.pour(3, -10000);
        downs.pour(3, 20);
        downs.pour(0, 20);
        downs.pass(1);
        Check.due("enough is just as much as it drinks", downs.flock(0, 1), 0);
        Check.due("the nearest is told from where it is now", downs.flock(0, 2), 0);
    }

    private static void step3RoamingStays() {
        DewPond downs = new DewPond();
        downs.dig(0, 0, 0, 10, 9);
        downs.dig(0, 1, 0, 10, 9);
        downs.addFlock(0, 10);
        downs.addFlock(0, 5);
        downs.setRoams(0, true);
        downs.pass(1);
        downs.pour(0, 9);
        downs.pour(1, 19);
        Check.due("nowhere is enough: it drinks what is here", downs.pass(1), 9);
        Check.due("it stays", downs.flock(0, 1), 0);
        downs.pour(0, 20);
        downs.pour(1, 500);
        Check.due("enough is here", downs.pass(1), 20);
        Check.due("it stays here", downs.flock(0, 1), 0);
        Check.due("one that stays does not roam", downs.flock(1, 1), 0);
        Check.due("but thirsts", downs.flock(1, 2), 9);
    }

    private static void step3RoamingSeesMistAndEarlierFlocks() {
        DewPond downs = new DewPond();
        downs.dig(0, 0, 0, 1, 1);
        downs.dig(0, 1, 0, 1, 9);
        downs.dig(0, 5, 0, 60, 9);
        for (int flock = 0; flock < 3; flock++) {
            downs.addFlock(0, 10);
            downs.setRoams(flock, true);
        }
        downs.pass(1);
        downs.pour(1, 50);
        downs.setWeather(1, 0, 1, 0);
        Check.due("all drink", downs.pass(1), 60);
        Check.due("the first goes to the nearest", downs.flock(0, 1), 1);
        Check.due("so does the second", downs.flock(1, 1), 1);
        Check.due("the third to what has rained", downs.flock(2, 1), 2);
    }

    private static void step4Sun() {
        DewPond downs = new DewPond();
        downs.bring(100);
        downs.bring(100);
        lined(downs, 0, 0, 13, 9);
        lined(downs, 1, 0, 13, 9);
        lined(downs, 2, 0, 13, 9);
        downs.pour(0, 100);
        downs.pour(1, 100);
        downs.pour(2, 6);
        downs.strew(1, true);
        downs.setWeather(0, 0, 0, 3);
        downs.pass(1);
        Check.due("sun: 39 / 5", downs.pond(0, 5), 93);
        Check.due("sun on straw: half of 7, cut", downs.pond(1, 5), 97);
        Check.due("sun: at most all", downs.pond(2, 5), 0);
    }

    private static void step5Leaks() {
        DewPond downs = new DewPond();
        downs.dig(0, 0, 0, 60, 9);
        downs.dig(1, 0, 0, 60, 9);
        downs.dig(2, 0, 0, 60, 9);
        downs.puddle(1, 33);
        downs.puddle(2, 67);
        downs.pour(0, 1001);
        downs.pour(1, 1001);
        downs.pour(2, 3);
        downs.pass(1);
        Check.due("leak without lining", downs.pond(0, 5), 501);
        Check.due("leak with a lining of 33: 67067 / 200", downs.pond(1, 5), 666);
        Check.due("leak of less than 1", downs.pond(2, 5), 3);
    }

    private static void step6RunningOver() {
        DewPond downs = new DewPond();
        downs.bring(100);
        downs.bring(100);
        lined(downs, 0, 100, 10, 1);
        lined(downs, 1, 50, 10, 1);
        lined(downs, 2, 10, 10, 9);
        downs.pour(0, 100);
        downs.pour(1, 100);
        downs.link(0, 1);
        downs.link(1, 2);
        downs.setWeather(0, 0, 9, 0);
        downs.pass(1);
        Check.due("the first is full", downs.pond(0, 5), 100);
        Check.due("the second is full", downs.pond(1, 5), 100);
        Check.due("the third has all", downs.pond(2, 5), 135);
        Check.due("the first ran over", downs.pond(0, 10), 45);
        Check.due("the second ran over", downs.pond(1, 10), 90);
        Check.due("the third did not", downs.pond(2, 10), 0);
        downs.link(1, -1);
        downs.pass(10);
        Check.due("what runs over into none is gone", downs.pond(2, 5), 180);
        Check.due("but is counted, in all", downs.pond(1, 10), 180);
        Check.due("the first ran over again", downs.pond(0, 10), 90);
        Check.due("count(5)", downs.count(5), 380);
    }

    private static void step6HigherFirst() {
        DewPond downs = new DewPond();
        for (int k = 0; k < 4; k++) {
            downs.bring(100);
        }
        int[] heights = {20, 40, 10, 30, 40};
        for (int k = 0; k < heights.length; k++) {
            lined(downs, k, heights[k], 2, 1);
            downs.pour(k, 20);
        }
        downs.link(1, 3);
        downs.link(4, 0);
        downs.link(3, 0);
        downs.link(0, 2);
        downs.setWeather(0, 0, 1, 0);
        downs.pass(1);
        int[] over = {4, 1, 5, 2, 1};
        for (int k = 0; k < over.length; k++) {
            Check.due("ran over: pond(" + k + ", 10)", downs.pond(k, 10), over[k]);
            Check.due("full: pond(" + k + ", 5)", downs.pond(k, 5), 20);
        }
    }

    private static void step7Straw() {
        DewPond downs = new DewPond();
        lined(downs, 0, 0, 10, 9);
        downs.strew(0, true);
        downs.pass(9);
        Check.due("straw before day 9", downs.pond(0, 7), 1);
        downs.pour(0, 100);
        downs.setWeather(9, 0, 0, 5);
        downs.pass(1);
        Check.due("it helps on day 9 still", downs.pond(0, 5), 95);
        Check.due("straw behind day 9", downs.pond(0, 7), 0);
        downs.strew(0, true);
        downs.pass(9);
        Check.due("straw before day 19", downs.pond(0, 7), 1);
        downs.pass(1);
        Check.due("straw behind day 19", downs.pond(0, 7), 0);
    }

    private static void stepOrder() {
        DewPond downs = new DewPond();
        downs.dig(0, 0, 150, 10, 1);
        downs.addFlock(0, 30);
        downs.puddle(0, 23);
        downs.pour(0, 100);
        downs.setWeather(0, 2, 4, 6);
        // 100 + 2 * 5 + 20 = 130; drunk 60: 70, lining 20; sun 12: 58; leak 58 * 80 / 200: 35.
        Check.due("a whole day: drunk", downs.pass(1), 60);
        Check.due("a whole day: water", downs.pond(0, 5), 35);
        Check.due("a whole day: lining", downs.pond(0, 6), 20);
        downs.setWeather(1, 9, 9, 9);
        downs.pour(0, 100);
        // 100 + 44 + 45 = 189; drunk 60: 129, lining 17; sun 18: 111; leak 111 * 83 / 200: 65.
        downs.pass(1);
        Check.due("it runs over at the end of the day alone", downs.pond(0, 5), 65);
        Check.due("nothing ran over", downs.pond(0, 10), 0);
    }

    private static void promise14Pass() {
        DewPond downs = new DewPond();
        Check.due("pass without ponds", downs.pass(1), 0);
        Check.due("pass most", downs.pass(100), 0);
        Check.due("day", downs.count(0), 101);
        lined(downs, 0, 0, 60, 9);
        downs.pour(0, 5000);
        downs.addFlock(0, 4);
        downs.addFlock(0, 5);
        Check.due("drunk in 3 days", downs.pass(3), 54);
        Check.due("drunk in 2 days", downs.pass(2), 36);
        Check.illegalArgument("pass(0)", downs, () -> downs.pass(0));
        Check.illegalArgument("pass(101)", downs, () -> downs.pass(101));
        Check.illegalArgument("pass(-1)", downs, () -> downs.pass(-1));
    }

    private static void promise15Count() {
        DewPond downs = new DewPond();
        downs.dig(0, 0, 0, 10, 9);
        downs.dig(0, 1, 0, 10, 9);
        downs.dig(0, 2, 0, 10, 9);
        downs.puddle(0, 60);
        downs.pour(1, 800);
        downs.addFlock(0, 10);
        downs.addFlock(1, 11);
        downs.addFlock(2, 12);
        downs.pass(4);
        int[] due = {4, 3, 3, 2, 40, 0, 2, 11};
        due[5] = downs.pond(0, 5) + downs.pond(1, 5) + downs.pond(2, 5);
        for (int what = 0; what < due.length; what++) {
            Check.due("count(" + what + ")", downs.count(what), due[what]);
        }
        Check.outOfBounds("count(8)", downs, () -> downs.count(8));
        Check.outOfBounds("count(-1)", downs, () -> downs.count(-1));
    }

    private static void promise15CountOfAFullHouse() {
        DewPond downs = new DewPond();
        for (int pond = 0; pond < 10; pond++) {
            downs.dig(pond, pond, 10 * pond, 10, 9);
            downs.pour(pond, 100 - 10 * pond);
        }
        for (int flock = 0; flock < 6; flock++) {
            downs.addFlock(flock, 1 + flock);
        }
        int[] due = {0, 10, 6, 0, 100, 550, 0, 21};
        for (int what = 0; what < due.length; what++) {
            Check.due("a full house: count(" + what + ")", downs.count(what), due[what]);
        }
        downs.pour(0, -100);
        downs.pour(9, -10);
        Check.due("two are dry: count(6)", downs.count(6), 2);
        downs.strew(9, true);
        downs.pass(10);
        Check.due("a full house: straw behind day 9", downs.pond(9, 7), 0);
    }

    /** Digs the pond with this number at a place of its own, with a lining of 100 from the heap. */
    private static void lined(DewPond downs, int number, int height, int size, int depth) {
        Check.due("dig", downs.dig(number, 40, height, size, depth), number);
        Check.due("puddle", downs.puddle(number, 100), 100);
    }
}
