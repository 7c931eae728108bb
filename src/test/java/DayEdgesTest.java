/** "A day goes like this": each sentence of its seven steps that names an edge, by a test of its own. */
public final class DayEdgesTest {
    public static void main(String[] args) {
        mist();
        mistTwiceFrom150();
        mistOnAFullPond();
        rain();
        rainIsNeverTwice();
        flocksByNumbers();
        roamsWithThirstAlone();
        roamsToAnotherPond();
        roamsWithEnoughThere();
        roamsToTheNearest();
        roamsToTheSmallestNumber();
        staysWithEnoughHere();
        staysWithNowhereElse();
        staysIfItDoesNotRoam();
        roamsByTheWaterOfNow();
        drinks2ForEachSheep();
        drinksAllThatThereIs();
        thirst2LessAtLeast0();
        thirst3MoreAtMost10();
        treading();
        treadingAtLeast0();
        treadingIsCutForEachFlock();
        treadingOfTheOneWhereItDrank();
        noTreadingOnStraw();
        sun();
        sunAtMostAll();
        sunOnStraw();
        flocksBeforeSun();
        sunBeforeLeaks();
        leaks();
        noLeaksWithALiningOf100();
        leaksBehindTreading();
        fullDoesNotRunOver();
        runsOverInto();
        runsOverIntoNone();
        runsOverDownAChain();
        runsOverIntoAHigherNumber();
        higherOnesFirst();
        whatRunsOverDoesNotLeakThatDay();
        strawIsRottenOnDay9();
        strawLiesOnOtherDays();
        strawHelpsOnItsLastDay();
        theDayIs1Greater();
        Check.end();
    }

    private static void mist() {
        Check.sentence("Mist: each pond gets mist * size / 4 more");
        Check.due("no mist", behindADay(0, 60, 10, 0, 0), 10);
        Check.due("the least: 1 / 4", behindADay(0, 1, 10, 1, 0), 10);
        Check.due("4 / 4", behindADay(0, 4, 10, 1, 0), 11);
        Check.due("the most: 540 / 4", behindADay(0, 60, 10, 9, 0), 145);
    }

    private static void mistTwiceFrom150() {
        Check.sentence("twice as much (of that number) if its height is 150 or more");
        Check.due("149", behindADay(149, 7, 10, 1, 0), 11);
        Check.due("150", behindADay(150, 7, 10, 1, 0), 12);
        Check.due("151", behindADay(151, 7, 10, 1, 0), 12);
        Check.due("300", behindADay(300, 60, 10, 9, 0), 280);
        Check.due("twice the cut number: 3 / 4", behindADay(300, 3, 10, 1, 0), 10);
    }

    private static void mistOnAFullPond() {
        Check.sentence("Running over: .. what is more than it holds");
        DewPond downs = Made.oneTight(0, 4, 1, 40);
        downs.addFlock(0, 2);
        downs.setWeather(0, 4, 0, 0);
        downs.pass(1);
        Check.due("4 more than it holds are drunk before it runs over", downs.pond(0, 5), 40);
        Check.due("so that nothing runs over", downs.pond(0, 10), 0);
    }

    private static void rain() {
        Check.sentence("Rain: each pond gets rain * size / 2 more.");
        Check.due("no rain", behindADay(0, 60, 10, 0, 0), 10);
        Check.due("the least: 1 / 2", behindADay(0, 1, 10, 0, 1), 10);
        Check.due("2 / 2", behindADay(0, 2, 10, 0, 1), 11);
        Check.due("the most: 540 / 2", behindADay(0, 60, 10, 0, 9), 280);
    }

    private static void rainIsNeverTwice() {
        Check.sentence("Rain: each pond gets rain * size / 2 more.");
        Check.due("149", behindADay(149, 7, 10, 0, 1), 13);
        Check.due("150", behindADay(150, 7, 10, 0, 1), 13);
        Check.due("300", behindADay(300, 7, 10, 0, 1), 13);
    }

    private static void flocksByNumbers() {
        Check.sentence("Flocks, by their numbers.");
        DewPond downs = Made.oneTight(0, 60, 9, 50);
        downs.addFlock(0, 10);
        downs.addFlock(0, 20);
        downs.addFlock(0, 1);
        downs.pass(1);
        Check.due("the first drinks", downs.flock(0, 5), 20);
        Check.due("the second drinks the rest", downs.flock(1, 5), 30);
        Check.due("the last has none", downs.flock(2, 5), 0);
    }

    private static void roamsWithThirstAlone() {
        Check.sentence("One that roams, and has thirst, first goes to another pond");
        DewPond downs = roamer(10, 0, 500);
        downs.pass(1);
        Check.due("without thirst: where it is", downs.flock(0, 1), 0);
        Check.due("without thirst: what it drinks", downs.flock(0, 5), 0);
        Check.due("it has thirst then", downs.flock(0, 2), 3);
        Check.due("with thirst: it drinks", downs.pass(1), 20);
        Check.due("with thirst: where it is", downs.flock(0, 1), 1);
        Check.due("less thirst", downs.flock(0, 2), 1);
        Made.fill(downs, 1, 0);
        Made.fill(downs, 0, 20);
        Check.due("with a thirst of 1: it drinks", downs.pass(1), 20);
        Check.due("with a thirst of 1: where it is", downs.flock(0, 1), 0);
    }

    private static void roamsToAnotherPond() {
        Check.sentence("first goes to another pond .. Then it drinks");
        DewPond downs = thirstyRoamer(10, 19, 20);
        Check.due("it drinks on the day when it goes", downs.pass(1), 20);
        Check.due("where it was, the water stays", downs.pond(0, 5), 19);
        Check.due("where it is, it has drunk all", downs.pond(1, 5), 0);
    }

    private static void roamsWithEnoughThere() {
        Check.sentence("in which there is as much water as it drinks, 2 for each of its sheep");
        DewPond less = thirstyRoamer(10, 0, 19);
        less.pass(1);
        Check.due("1 less", less.flock(0, 1), 0);
        DewPond just = thirstyRoamer(10, 0, 20);
        just.pass(1);
        Check.due("as much", just.flock(0, 1), 1);
        DewPond more = thirstyRoamer(10, 0, 21);
        more.pass(1);
        Check.due("1 more", more.flock(0, 1), 1);
    }

    private static void roamsToTheNearest() {
        Check.sentence("to the nearest one");
        DewPond downs = new DewPond();
        int[][] places = {{20, 20}, {20, 10}, {24, 20}, {20, 23}, {22, 22}, {18, 20}};
        for (int[] place : places) {
            downs.dig(place[0], place[1], 0, 60, 9);
        }
        downs.addFlock(0, 10);
        downs.setRoams(0, true);
        downs.pass(1);
        for (int pond = 1; pond < 5; pond++) {
            downs.pour(pond, 500);
        }
        downs.pour(5, 19);
        downs.pass(1);
        Check.due("the one with the distance 3, not 10, 4 or 2 and 2", downs.flock(0, 1), 3);
    }

    private static void roamsToTheSmallestNumber() {
        Check.sentence("and of several the one with the smallest number");
        DewPond downs = new DewPond();
        int[][] places = {{20, 24}, {18, 19}, {20, 20}, {23, 20}, {21, 22}};
        for (int[] place : places) {
            downs.dig(place[0], place[1], 0, 60, 9);
            downs.pour(downs.count(1) - 1, 500);
        }
        Made.fill(downs, 2, 0);
        downs.addFlock(2, 10);
        downs.setRoams(0, true);
        downs.pass(2);
        Check.due("of three with the distance 3", downs.flock(0, 1), 1);
    }

    private static void staysWithEnoughHere() {
        Check.sentence("but if there is as much where it is, or nowhere else, it stays where it is");
        DewPond just = thirstyRoamer(10, 20, 5000);
        just.pass(1);
        Check.due("as much here", just.flock(0, 1), 0);
        Check.due("it drinks here", just.pond(0, 5), 0);
        DewPond less = thirstyRoamer(10, 19, 5000);
        less.pass(1);
        Check.due("1 less here", less.flock(0, 1), 1);
    }

    private static void staysWithNowhereElse() {
        Check.sentence("but if there is as much where it is, or nowhere else, it stays where it is");
        DewPond downs = thirstyRoamer(10, 3, 19);
        Check.due("it drinks what is here", downs.pass(1), 3);
        Check.due("where it is", downs.flock(0, 1), 0);
        Check.due("more thirst", downs.flock(0, 2), 6);
        DewPond alone = Made.oneTight(0, 60, 9, 3);
        alone.addFlock(0, 10);
        alone.setRoams(0, true);
        alone.pass(2);
        Check.due("there is no other pond", alone.flock(0, 1), 0);
    }

    private static void staysIfItDoesNotRoam() {
        Check.sentence("One that roams, and has thirst, first goes to another pond");
        DewPond downs = thirstyRoamer(10, 0, 5000);
        downs.setRoams(0, false);
        Check.due("it drinks nothing", downs.pass(1), 0);
        Check.due("where it is", downs.flock(0, 1), 0);
    }

    private static void roamsByTheWaterOfNow() {
        Check.sentence("Flocks, by their numbers. One that roams ..");
        DewPond downs = thirstyRoamer(10, 0, 39);
        downs.addFlock(1, 10);
        downs.addFlock(0, 10);
        downs.setRoams(2, true);
        downs.pass(1);
        Check.due("the first has found enough", downs.flock(0, 1), 1);
        Check.due("the second has 19 of it", downs.flock(1, 5), 19);
        downs.pour(1, 40);
        downs.pass(1);
        Check.due("the last finds none behind the others", downs.flock(2, 1), 0);
        DewPond wet = thirstyRoamer(10, 0, 0);
        wet.setWeather(1, 0, 1, 0);
        wet.pass(1);
        Check.due("rain of the same day is enough here", wet.flock(0, 1), 0);
        Check.due("it drinks it", wet.flock(0, 5), 20);
    }

    private static void drinks2ForEachSheep() {
        Check.sentence("Then it drinks: 2 for each of its sheep");
        DewPond downs = Made.oneTight(0, 60, 9, 1000);
        downs.addFlock(0, 1);
        Check.due("the least", downs.pass(1), 2);
        Check.due("water", downs.pond(0, 5), 998);
        downs.addFlock(0, 80);
        downs.strew(0, true);
        Check.due("the most, too", downs.pass(1), 162);
        Check.due("water then", downs.pond(0, 5), 836);
    }

    private static void drinksAllThatThereIs() {
        Check.sentence("or all that there is. If this was all it needed");
        int[] water = {0, 1, 19, 20, 21};
        int[] drunk = {0, 1, 19, 20, 20};
        int[] thirst = {3, 3, 3, 0, 0};
        for (int k = 0; k < water.length; k++) {
            DewPond downs = Made.oneTight(0, 60, 9, water[k]);
            downs.addFlock(0, 10);
            Check.due(water[k] + ": drunk", downs.pass(1), drunk[k]);
            Check.due(water[k] + ": drunk in all", downs.flock(0, 5), drunk[k]);
            Check.due(water[k] + ": left", downs.pond(0, 5), water[k] - drunk[k]);
            Check.due(water[k] + ": thirst", downs.flock(0, 2), thirst[k]);
        }
    }

    private static void thirst2LessAtLeast0() {
        Check.sentence("its thirst is 2 less (at least 0)");
        DewPond downs = Made.oneTight(0, 60, 9, 0);
        downs.addFlock(0, 5);
        downs.pass(3);
        downs.pour(0, 1000);
        int[] due = {7, 5, 3, 1, 0, 0};
        for (int thirst : due) {
            downs.pass(1);
            Check.due("thirst", downs.flock(0, 2), thirst);
        }
        DewPond even = Made.oneTight(0, 60, 9, 0);
        even.addFlock(0, 5);
        even.pass(2);
        even.pour(0, 1000);
        even.pass(2);
        Check.due("6 less 2 less 2", even.flock(0, 2), 2);
        even.pass(1);
        Check.due("2 less 2", even.flock(0, 2), 0);
    }

    private static void thirst3MoreAtMost10() {
        Check.sentence("otherwise 3 more (at most 10)");
        // For each thirst before the last dry day: how many days without and with water lead to it.
        int[][] days = {{0, 0}, {2, 2}, {1, 0}, {2, 1}, {2, 0}, {3, 1}, {3, 0}};
        int[] before = {0, 2, 3, 4, 6, 7, 9};
        int[] behind = {3, 5, 6, 7, 9, 10, 10};
        for (int k = 0; k < days.length; k++) {
            DewPond downs = Made.oneTight(0, 60, 9, 0);
            downs.addFlock(0, 5);
            for (int day = 0; day < days[k][0]; day++) {
                downs.pass(1);
            }
            downs.pour(0, 10 * days[k][1]);
            for (int day = 0; day < days[k][1]; day++) {
                downs.pass(1);
            }
            Check.due("before", downs.flock(0, 2), before[k]);
            downs.pass(1);
            Check.due(before[k] + " and 3", downs.flock(0, 2), behind[k]);
        }
    }

    private static void treading() {
        Check.sentence("The lining of the pond is sheep / 10 less");
        int[] sheep = {1, 9, 10, 19, 20, 79, 80};
        int[] due = {50, 50, 49, 49, 48, 43, 42};
        for (int k = 0; k < sheep.length; k++) {
            DewPond downs = Made.oneLined(50, 5000);
            downs.addFlock(0, sheep[k]);
            downs.pass(1);
            Check.due(sheep[k] + " sheep", downs.pond(0, 6), due[k]);
        }
        DewPond dry = Made.oneLined(50, 0);
        dry.addFlock(0, 80);
        dry.pass(1);
        Check.due("without water too", dry.pond(0, 6), 42);
    }

    private static void treadingAtLeast0() {
        Check.sentence("The lining of the pond is sheep / 10 less (at least 0)");
        int[] lining = {0, 1, 7, 8, 9};
        int[] due = {0, 0, 0, 0, 1};
        for (int k = 0; k < lining.length; k++) {
            DewPond downs = Made.oneLined(lining[k], 5000);
            downs.addFlock(0, 80);
            downs.pass(1);
            Check.due(lining[k] + " less 8", downs.pond(0, 6), due[k]);
        }
    }

    private static void treadingIsCutForEachFlock() {
        Check.sentence("The lining of the pond is sheep / 10 less");
        DewPond downs = Made.oneLined(50, 5000);
        downs.addFlock(0, 15);
        downs.addFlock(0, 15);
        downs.pass(1);
        Check.due("1 less for each", downs.pond(0, 6), 48);
    }

    private static void treadingOfTheOneWhereItDrank() {
        Check.sentence("The lining of the pond is sheep / 10 less");
        DewPond downs = thirstyRoamer(10, 0, 5000);
        int here = downs.pond(0, 6);
        int there = downs.pond(1, 6);
        downs.pass(1);
        Check.due("not of the one it has left", downs.pond(0, 6), here);
        Check.due("of the one to which it goes", downs.pond(1, 6), there - 1);
    }

    private static void noTreadingOnStraw() {
        Check.sentence("but not if it has straw");
        DewPond downs = Made.oneLined(50, 5000);
        downs.addFlock(0, 80);
        downs.strew(0, true);
        downs.pass(1);
        Check.due("with straw", downs.pond(0, 6), 50);
        downs.strew(0, false);
        downs.pass(1);
        Check.due("without", downs.pond(0, 6), 42);
    }

    private static void sun() {
        Check.sentence("Sun: each pond loses sun * size / 5");
        Check.due("no sun", behindSun(60, 200, 0, false), 200);
        Check.due("the least: 1 / 5", behindSun(1, 10, 1, false), 10);
        Check.due("5 / 5", behindSun(5, 10, 1, false), 9);
        Check.due("the most: 540 / 5", behindSun(60, 200, 9, false), 92);
    }

    private static void sunAtMostAll() {
        Check.sentence("Sun: each pond loses .. at most all");
        Check.due("nothing of nothing", behindSun(60, 0, 9, false), 0);
        Check.due("1 less than it would lose", behindSun(60, 107, 9, false), 0);
        Check.due("as much", behindSun(60, 108, 9, false), 0);
        Check.due("1 more", behindSun(60, 109, 9, false), 1);
        Check.due("straw: 1 less", behindSun(60, 53, 9, true), 0);
        Check.due("straw: as much", behindSun(60, 54, 9, true), 0);
        Check.due("straw: 1 more", behindSun(60, 55, 9, true), 1);
    }

    private static void sunOnStraw() {
        Check.sentence("or half (cut) of this number, if it has straw");
        Check.due("a half of 1", behindSun(5, 100, 1, true), 100);
        Check.due("a half of 2", behindSun(10, 100, 1, true), 99);
        Check.due("a half of 3", behindSun(15, 100, 1, true), 99);
        Check.due("a half of 19 / 5", behindSun(19, 100, 1, true), 99);
        Check.due("a half of 540 / 5", behindSun(60, 100, 9, true), 46);
    }

    private static void flocksBeforeSun() {
        Check.sentence("3. Flocks .. 4. Sun");
        DewPond downs = Made.oneTight(0, 60, 9, 100);
        downs.addFlock(0, 9);
        downs.setWeather(0, 0, 0, 9);
        Check.due("they drink of what the sun would take", downs.pass(1), 18);
        Check.due("it takes the rest", downs.pond(0, 5), 0);
    }

    private static void sunBeforeLeaks() {
        Check.sentence("4. Sun .. 5. Leaks");
        DewPond downs = Made.oneLined(0, 100);
        downs.setWeather(0, 0, 0, 5);
        downs.pass(1);
        Check.due("a half of 100 less 60", downs.pond(0, 5), 20);
    }

    private static void leaks() {
        Check.sentence("Leaks: each pond loses water * (100 less the lining) / 200.");
        int[][] liningWaterDue = {
            {0, 0, 0}, {0, 1, 1}, {0, 2, 1}, {0, 3, 2}, {0, 5400, 2700},
            {50, 3, 3}, {50, 4, 3}, {99, 199, 199}, {99, 200, 199}, {99, 5400, 5373},
        };
        for (int[] row : liningWaterDue) {
            DewPond downs = Made.oneLined(row[0], row[1]);
            downs.pass(1);
            Check.due("lining " + row[0] + ", water " + row[1], downs.pond(0, 5), row[2]);
        }
    }

    private static void noLeaksWithALiningOf100() {
        Check.sentence("Leaks: each pond loses water * (100 less the lining) / 200.");
        DewPond downs = Made.oneLined(100, 5400);
        downs.pass(100);
        Check.due("100 days", downs.pond(0, 5), 5400);
    }

    private static void leaksBehindTreading() {
        Check.sentence("3. Flocks .. 5. Leaks");
        DewPond downs = Made.oneLined(100, 1160);
        downs.addFlock(0, 80);
        downs.pass(1);
        Check.due("1160 less 160, by a lining of 92", downs.pond(0, 5), 960);
    }

    private static void fullDoesNotRunOver() {
        Check.sentence("Running over: .. what is more than it holds");
        DewPond downs = Made.oneTight(50, 2, 1, 19);
        Made.tight(downs, 1, 0, 60, 9, 0);
        downs.link(0, 1);
        downs.setWeather(0, 0, 1, 0);
        downs.setWeather(1, 0, 1, 0);
        downs.pass(1);
        int below = downs.pond(1, 5);
        Check.due("full: water", downs.pond(0, 5), 20);
        Check.due("full: run over", downs.pond(0, 10), 0);
        Check.due("full: nothing comes to the other but rain", below, 30);
        downs.pass(1);
        Check.due("1 more: water", downs.pond(0, 5), 20);
        Check.due("1 more: run over", downs.pond(0, 10), 1);
        Check.due("1 more: it comes to the other", downs.pond(1, 5), below + 31);
    }

    private static void runsOverInto() {
        Check.sentence("what is more than it holds goes into the pond into which it runs over");
        DewPond downs = Made.oneTight(50, 60, 1, 600);
        Made.tight(downs, 1, 0, 60, 9, 5);
        downs.link(0, 1);
        downs.setWeather(0, 9, 0, 0);
        downs.pass(1);
        Check.due("the upper one stays full", downs.pond(0, 5), 600);
        Check.due("135 of the upper one, 135 of mist", downs.pond(1, 5), 275);
        Check.due("the lower one has not run over", downs.pond(1, 10), 0);
    }

    private static void runsOverIntoNone() {
        Check.sentence("or is gone");
        DewPond downs = Made.oneTight(50, 60, 1, 600);
        Made.tight(downs, 1, 0, 60, 9, 5);
        downs.setWeather(0, 9, 0, 0);
        downs.pass(1);
        Check.due("all water", downs.count(5), 600 + 140);
        Check.due("what is gone is counted", downs.pond(0, 10), 135);
        downs.link(0, 1);
        downs.link(0, -1);
        downs.pass(10);
        Check.due("unlinked again: all water", downs.count(5), 600 + 275);
        Check.due("unlinked again: what is gone", downs.pond(0, 10), 270);
    }

    private static void runsOverDownAChain() {
        Check.sentence("pond by pond, the higher ones first");
        DewPond downs = new DewPond();
        for (int pond = 0; pond < 10; pond++) {
            Made.tight(downs, pond, 9 - pond, 2, 1, 20);
        }
        for (int pond = 0; pond < 9; pond++) {
            downs.link(pond, pond + 1);
        }
        downs.setWeather(0, 0, 1, 0);
        downs.pass(1);
        for (int pond = 0; pond < 10; pond++) {
            Check.due("ran over: pond " + pond, downs.pond(pond, 10), pond + 1);
        }
    }

    private static void runsOverIntoAHigherNumber() {
        Check.sentence("pond by pond, the higher ones first");
        DewPond downs = new DewPond();
        for (int pond = 0; pond < 10; pond++) {
            Made.tight(downs, pond, pond, 2, 1, 20);
        }
        for (int pond = 1; pond < 10; pond++) {
            downs.link(pond, pond - 1);
        }
        downs.setWeather(0, 0, 1, 0);
        downs.pass(1);
        for (int pond = 0; pond < 10; pond++) {
            Check.due("ran over: pond " + pond, downs.pond(pond, 10), 10 - pond);
            Check.due("full: pond " + pond, downs.pond(pond, 5), 20);
        }
    }

    private static void higherOnesFirst() {
        Check.sentence("the higher ones first, of the same height by their numbers");
        int[] heights = {5, 200, 70, 5, 300, 70, 0, 70, 200, 150};
        int[] into = {6, 7, 3, 6, 9, 0, -1, 3, 2, 5};
        DewPond downs = new DewPond();
        for (int pond = 0; pond < 10; pond++) {
            Made.tight(downs, pond, heights[pond], 2, 1, 20);
        }
        for (int pond = 0; pond < 10; pond++) {
            downs.link(pond, into[pond]);
        }
        downs.setWeather(0, 0, 1, 0);
        downs.pass(1);
        int[] over = {4, 1, 2, 5, 1, 3, 10, 2, 1, 2};
        for (int pond = 0; pond < 10; pond++) {
            Check.due("ran over: pond " + pond, downs.pond(pond, 10), over[pond]);
        }
    }

    private static void whatRunsOverDoesNotLeakThatDay() {
        Check.sentence("5. Leaks .. 6. Running over");
        DewPond downs = Made.oneTight(50, 60, 1, 600);
        downs.dig(1, 0, 0, 60, 9);
        downs.link(0, 1);
        downs.setWeather(0, 9, 0, 9);
        downs.pass(1);
        Check.due("27 of the upper one, a half of 27 of mist and sun", downs.pond(1, 5), 27 + 14);
    }

    private static void strawIsRottenOnDay9() {
        Check.sentence("The straw of each pond that has some, on days with a remainder 9 by 10, is rotten");
        DewPond downs = Made.fullHouse();
        for (int pond = 1; pond < 10; pond++) {
            downs.strew(pond, true);
        }
        downs.pass(10);
        for (int pond = 0; pond < 10; pond++) {
            Check.due("behind day 9: pond " + pond, downs.pond(pond, 7), 0);
        }
        downs.strew(0, true);
        downs.pass(10);
        Check.due("behind day 19", downs.pond(0, 7), 0);
        downs.pass(79);
        downs.strew(0, true);
        downs.pass(1);
        Check.due("behind day 99", downs.count(0) + downs.pond(0, 7), 100);
    }

    private static void strawLiesOnOtherDays() {
        Check.sentence("The straw of each pond that has some, on days with a remainder 9 by 10, is rotten");
        DewPond downs = Made.oneLined(0, 0);
        downs.strew(0, true);
        for (int day = 0; day < 9; day++) {
            downs.pass(1);
            Check.due("behind day " + day, downs.pond(0, 7), 1);
        }
        downs.pass(1);
        downs.strew(0, true);
        for (int day = 10; day < 19; day++) {
            downs.pass(1);
            Check.due("behind day " + day, downs.pond(0, 7), 1);
        }
    }

    private static void strawHelpsOnItsLastDay() {
        Check.sentence("it has none any more");
        DewPond downs = Made.oneLined(100, 1000);
        downs.pass(9);
        downs.strew(0, true);
        downs.addFlock(0, 10);
        downs.setWeather(9, 0, 0, 1);
        downs.setWeather(0, 0, 0, 1);
        downs.pass(1);
        Check.due("day 9: water", downs.pond(0, 5), 1000 - 20 - 6);
        Check.due("day 9: lining", downs.pond(0, 6), 100);
        downs.pass(1);
        // 974 less 20, less 12, by a lining of 99.
        Check.due("day 10: water", downs.pond(0, 5), 942 - 4);
        Check.due("day 10: lining", downs.pond(0, 6), 99);
    }

    private static void theDayIs1Greater() {
        Check.sentence("The day is 1 greater.");
        DewPond downs = new DewPond();
        for (int day = 1; day <= 21; day++) {
            downs.pass(1);
            Check.due("day", downs.count(0), day);
        }
    }

    /** The water of a pond that does not leak behind one day without sun. */
    private static int behindADay(int height, int size, int water, int mist, int rain) {
        DewPond downs = Made.oneTight(height, size, 9, water);
        downs.setWeather(0, mist, rain, 0);
        downs.pass(1);
        return downs.pond(0, 5);
    }

    private static int behindSun(int size, int water, int sun, boolean isStrewn) {
        DewPond downs = Made.oneTight(200, size, 9, water);
        downs.strew(0, isStrewn);
        downs.setWeather(0, 0, 0, sun);
        downs.pass(1);
        return downs.pond(0, 5);
    }

    /** Flock 0, of so many sheep, roams and is at pond 0; there is no other pond but pond 1. */
    private static DewPond roamer(int sheep, int here, int there) {
        DewPond downs = Made.oneTight(0, 40, 9, here);
        Made.tight(downs, 1, 0, 40, 9, there);
        downs.addFlock(0, sheep);
        downs.setRoams(0, true);
        return downs;
    }

    /** The same behind a day, with a thirst of 3. */
    private static DewPond thirstyRoamer(int sheep, int here, int there) {
        DewPond downs = roamer(sheep, 0, 0);
        downs.pass(1);
        downs.pour(0, here);
        downs.pour(1, there);
        return downs;
    }
}
