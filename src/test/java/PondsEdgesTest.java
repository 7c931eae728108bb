/** Promises 1 to 7: each sentence that names an edge, by a test of its own. Refused calls are in RefusalsTest. */
public final class PondsEdgesTest {
    public static void main(String[] args) {
        newWithoutPonds();
        newWithoutFlocks();
        newOnDay0();
        newOnesShareNothing();
        digReturnsItsNumber();
        digAtEachOtherPlace();
        digTheTenth();
        digLater();
        digBetweenInHeight();
        linkReturnsTheOneBefore();
        linkToNone();
        linkToTheSameAgain();
        linkToOneLowerBy1();
        puddleAsMuchAsIsTold();
        puddleUpTo100();
        puddleWhatTheHeapHas();
        puddleFromAnEmptyHeap();
        puddleALinedOne();
        puddleAtAQuarter();
        puddleAtACutQuarter();
        strewAndTakeOff();
        strewReturnsWhetherItHad();
        pourAboveWhatItHolds();
        pourIntoAFullOne();
        pourNothing();
        scoopAtMostAll();
        pourFrom10000To10000();
        pondTellsWhatItHolds();
        pondTellsFlocksThatAreNotLost();
        pondTellsWhatRanOverInAll();
        pondTellsWhatRanOverInStep6Alone();
        pondTellsWhoseWaterComes();
        pondIsNotItsOwnSource();
        pondTellsAllTenPowers();
        Check.end();
    }

    private static void newWithoutPonds() {
        Check.sentence("Creates downs without ponds and flocks");
        DewPond downs = new DewPond();
        Check.due("ponds", downs.count(1), 0);
        Check.due("ponds without water", downs.count(6), 0);
        Check.due("all water", downs.count(5), 0);
        Check.due("full", downs.full(), 0.0);
        Check.due("advise", downs.advise(50), -1);
        Check.outOfBounds("pond 0", downs, () -> downs.pond(0, 0));
        Check.outOfBounds("link", downs, () -> downs.link(0, -1));
        Check.outOfBounds("puddle", downs, () -> downs.puddle(0, 1));
        Check.outOfBounds("strew", downs, () -> downs.strew(0, true));
        Check.outOfBounds("pour", downs, () -> downs.pour(0, 1));
        Check.outOfBounds("addFlock", downs, () -> downs.addFlock(0, 1));
        Check.outOfBounds("foresee", downs, () -> downs.foresee(0, 1));
        Check.outOfBounds("lasts", downs, () -> downs.lasts(0));
        Check.outOfBounds("keep", downs, () -> downs.keep(0, 1));
    }

    private static void newWithoutFlocks() {
        Check.sentence("Creates downs without ponds and flocks");
        DewPond downs = new DewPond();
        downs.dig(0, 0, 0, 1, 1);
        Check.due("flocks", downs.count(2), 0);
        Check.due("lost ones", downs.count(3), 0);
        Check.due("sheep", downs.count(7), 0);
        Check.due("drunk in 100 days", downs.pass(100), 0);
        Check.outOfBounds("flock 0", downs, () -> downs.flock(0, 0));
        Check.outOfBounds("drive", downs, () -> downs.drive(0, 0));
        Check.outOfBounds("setRoams", downs, () -> downs.setRoams(0, true));
    }

    private static void newOnDay0() {
        Check.sentence("on the day 0");
        DewPond downs = Made.oneTight(0, 2, 1, 0);
        Check.due("the day", downs.count(0), 0);
        downs.setWeather(0, 0, 7, 0);
        downs.setWeather(1, 0, 1, 0);
        downs.pass(1);
        Check.due("its weather is that of the day 0", downs.pond(0, 5), 7);
    }

    private static void newOnesShareNothing() {
        Check.sentence("Creates downs without ponds and flocks");
        DewPond first = Made.busy();
        long before = first.digest();
        DewPond second = new DewPond();
        Check.due("the second has no ponds", second.count(1), 0);
        Check.due("the second has no flocks", second.count(2), 0);
        second.dig(0, 0, 0, 1, 1);
        second.pour(0, 10);
        second.setWeather(0, 9, 9, 9);
        second.pass(100);
        Check.due("the first is as it was", first.digest(), before);
    }

    private static void digReturnsItsNumber() {
        Check.sentence("Digs a pond. .. Returns its number.");
        DewPond downs = new DewPond();
        Check.due("the first", downs.dig(40, 0, 300, 60, 9), 0);
        Check.due("the second", downs.dig(0, 40, 0, 1, 1), 1);
        int[] due = {0, 40, 0, 1, 10, 0, 0, 0, -1, 0, 0, 0};
        for (int what = 0; what < due.length; what++) {
            Check.due("the second: " + what, downs.pond(1, what), due[what]);
        }
    }

    private static void digAtEachOtherPlace() {
        Check.sentence("if there is one at this place");
        DewPond downs = new DewPond();
        downs.dig(5, 7, 10, 1, 1);
        Check.due("x and y changed over", downs.dig(7, 5, 10, 1, 1), 1);
        Check.due("the same x", downs.dig(5, 6, 10, 1, 1), 2);
        Check.due("the same y", downs.dig(6, 7, 10, 1, 1), 3);
        for (int pond = 0; pond < 4; pond++) {
            int x = downs.pond(pond, 0);
            int y = downs.pond(pond, 1);
            Check.illegalState("the place of pond " + pond, downs, () -> downs.dig(x, y, 20, 2, 2));
        }
    }

    private static void digTheTenth() {
        Check.sentence("or there are 10");
        DewPond downs = new DewPond();
        for (int pond = 0; pond < 9; pond++) {
            downs.dig(pond, 0, 0, 1, 1);
        }
        Check.due("the 10th", downs.dig(9, 0, 0, 1, 1), 9);
        Check.illegalState("the 11th", downs, () -> downs.dig(10, 0, 0, 1, 1));
        Check.illegalState("the 11th, at a taken place", downs, () -> downs.dig(9, 0, 0, 1, 1));
    }

    private static void digLater() {
        Check.sentence("Digs a pond.");
        DewPond downs = Made.busy();
        Check.due("the number", downs.dig(1, 1, 170, 40, 1), 4);
        int[] due = {1, 1, 170, 40, 400, 0, 0, 0, -1, 0, 0, 0};
        for (int what = 0; what < due.length; what++) {
            Check.due("dug later: " + what, downs.pond(4, what), due[what]);
        }
    }

    private static void digBetweenInHeight() {
        Check.sentence("Digs a pond.");
        DewPond downs = Made.oneTight(0, 2, 1, 20);
        Made.tight(downs, 1, 100, 2, 1, 20);
        downs.pass(10);
        Made.tight(downs, 2, 50, 2, 1, 20);
        Made.tight(downs, 3, 75, 2, 1, 20);
        downs.link(1, 3);
        downs.link(3, 2);
        downs.link(2, 0);
        downs.setWeather(0, 0, 1, 0);
        downs.pass(1);
        int[] over = {4, 1, 3, 2};
        for (int pond = 0; pond < over.length; pond++) {
            Check.due("its turn to run over is by its height: pond " + pond, downs.pond(pond, 10), over[pond]);
        }
    }

    private static void linkReturnsTheOneBefore() {
        Check.sentence("Returns the one before, -1 for none.");
        DewPond downs = stairs();
        Check.due("none before", downs.link(0, 1), -1);
        Check.due("1 before", downs.link(0, 2), 1);
        Check.due("2 before", downs.link(0, 9), 2);
        Check.due("9 before", downs.link(0, -1), 9);
        Check.due("none again", downs.link(0, 1), -1);
    }

    private static void linkToNone() {
        Check.sentence("other: the other one, -1 for none");
        DewPond downs = stairs();
        downs.link(0, 1);
        downs.link(0, -1);
        Check.due("of one that ran over into another", downs.pond(0, 8), -1);
        Check.due("of the lowest", downs.link(9, -1), -1);
        Check.due("it stays none", downs.pond(9, 8), -1);
    }

    private static void linkToTheSameAgain() {
        Check.sentence("Returns the one before, -1 for none.");
        DewPond downs = stairs();
        downs.link(3, 4);
        Check.due("the one before is the same", downs.link(3, 4), 4);
        Check.due("it is linked yet", downs.pond(3, 8), 4);
    }

    private static void linkToOneLowerBy1() {
        Check.sentence("if the other one does not lie lower");
        DewPond downs = new DewPond();
        downs.dig(0, 0, 0, 1, 1);
        downs.dig(1, 0, 1, 1, 1);
        downs.dig(2, 0, 300, 1, 1);
        downs.dig(3, 0, 299, 1, 1);
        Check.due("1 to 0", downs.link(1, 0), -1);
        Check.due("300 to 299", downs.link(2, 3), -1);
        Check.illegalArgument("0 to 1", downs, () -> downs.link(0, 1));
        Check.illegalArgument("299 to 300", downs, () -> downs.link(3, 2));
        Check.illegalArgument("to itself", downs, () -> downs.link(3, 3));
    }

    private static void puddleAsMuchAsIsTold() {
        Check.sentence("clay comes from the heap to its lining, as much as is told");
        DewPond downs = stairs();
        Check.due("the least", downs.puddle(0, 1), 1);
        Check.due("lining", downs.pond(0, 6), 1);
        Check.due("heap", downs.count(4), 99);
        downs.bring(1);
        Check.due("the most", downs.puddle(1, 100), 100);
        Check.due("lining", downs.pond(1, 6), 100);
        Check.due("heap", downs.count(4), 0);
    }

    private static void puddleUpTo100() {
        Check.sentence("but no more than up to 100");
        DewPond downs = stairs();
        downs.bring(100);
        downs.puddle(0, 60);
        Check.due("41 of which 40 fit", downs.puddle(0, 41), 40);
        Check.due("lining", downs.pond(0, 6), 100);
        Check.due("heap", downs.count(4), 100);
        downs.puddle(1, 60);
        Check.due("just 40", downs.puddle(1, 40), 40);
        Check.due("heap then", downs.count(4), 0);
    }

    private static void puddleWhatTheHeapHas() {
        Check.sentence("and than the heap has");
        DewPond downs = stairs();
        downs.puddle(0, 70);
        Check.due("31 of 30", downs.puddle(1, 31), 30);
        Check.due("lining", downs.pond(1, 6), 30);
        Check.due("heap", downs.count(4), 0);
        downs.bring(20);
        Check.due("just 20", downs.puddle(1, 20), 20);
        downs.bring(20);
        Check.due("100 of which 20 are there and 50 would fit", downs.puddle(1, 100), 20);
        downs.bring(20);
        downs.bring(20);
        Check.due("100 of which 40 are there and 30 fit", downs.puddle(1, 100), 30);
    }

    private static void puddleFromAnEmptyHeap() {
        Check.sentence("and than the heap has");
        DewPond downs = stairs();
        downs.puddle(0, 100);
        Check.due("nothing of nothing", downs.puddle(1, 1), 0);
        Check.due("lining", downs.pond(1, 6), 0);
        Check.due("heap", downs.count(4), 0);
    }

    private static void puddleALinedOne() {
        Check.sentence("but no more than up to 100");
        DewPond downs = stairs();
        downs.puddle(0, 100);
        downs.bring(7);
        Check.due("nothing is used", downs.puddle(0, 1), 0);
        Check.due("lining", downs.pond(0, 6), 100);
        Check.due("heap", downs.count(4), 7);
    }

    private static void puddleAtAQuarter() {
        Check.sentence("if its water is more than a quarter (cut) of what it holds");
        DewPond downs = new DewPond();
        downs.dig(0, 0, 0, 4, 1);
        downs.pour(0, 9);
        Check.due("1 less", downs.puddle(0, 1), 1);
        downs.pour(0, 1);
        Check.due("just a quarter", downs.puddle(0, 1), 1);
        downs.pour(0, 1);
        Check.illegalState("1 more", downs, () -> downs.puddle(0, 1));
        downs.pour(0, 29);
        Check.illegalState("full", downs, () -> downs.puddle(0, 1));
    }

    private static void puddleAtACutQuarter() {
        Check.sentence("if its water is more than a quarter (cut) of what it holds");
        int[] sizes = {1, 3, 5, 60};
        int[] quarters = {2, 7, 12, 150};
        for (int k = 0; k < sizes.length; k++) {
            DewPond downs = new DewPond();
            downs.dig(0, 0, 0, sizes[k], 1);
            downs.pour(0, quarters[k]);
            Check.due("a quarter of " + 10 * sizes[k], downs.puddle(0, 1), 1);
            downs.pour(0, 1);
            Check.illegalState("1 more than a quarter of " + 10 * sizes[k], downs, () -> downs.puddle(0, 1));
        }
        DewPond heapless = new DewPond();
        heapless.dig(0, 0, 0, 1, 1);
        heapless.puddle(0, 100);
        heapless.pour(0, 3);
        Check.illegalState("though nothing would be used", heapless, () -> heapless.puddle(0, 1));
    }

    private static void strewAndTakeOff() {
        Check.sentence("Strews straw on a pond, or takes it off.");
        DewPond downs = stairs();
        downs.strew(9, true);
        Check.due("strewn", downs.pond(9, 7), 1);
        Check.due("not the others", downs.pond(8, 7), 0);
        downs.strew(9, true);
        Check.due("strewn twice", downs.pond(9, 7), 1);
        downs.strew(9, false);
        Check.due("taken off", downs.pond(9, 7), 0);
        downs.strew(9, false);
        Check.due("taken off twice", downs.pond(9, 7), 0);
    }

    private static void strewReturnsWhetherItHad() {
        Check.sentence("Returns whether it had.");
        DewPond downs = stairs();
        Check.due("at first", downs.strew(0, true), false);
        Check.due("strewn again", downs.strew(0, true), true);
        Check.due("taken off", downs.strew(0, false), true);
        Check.due("taken off again", downs.strew(0, false), false);
        downs.strew(0, true);
        downs.pass(10);
        Check.due("when it is rotten", downs.strew(0, false), false);
    }

    private static void pourAboveWhatItHolds() {
        Check.sentence("what is more than it holds is gone");
        DewPond downs = new DewPond();
        downs.dig(0, 0, 10, 2, 1);
        downs.dig(1, 0, 0, 60, 9);
        downs.link(0, 1);
        Check.due("1 less", downs.pour(0, 19), 19);
        Check.due("full", downs.pour(0, 1), 20);
        downs.pour(0, -1);
        Check.due("1 more than fits", downs.pour(0, 2), 20);
        Check.due("the most", downs.pour(0, 10000), 20);
        Check.due("nothing comes to the other", downs.pond(1, 5), 0);
        Check.due("all water", downs.count(5), 20);
        Check.due("the most into the largest", downs.pour(1, 10000), 5400);
    }

    private static void pourIntoAFullOne() {
        Check.sentence("what is more than it holds is gone");
        DewPond downs = Made.oneTight(0, 2, 1, 20);
        Check.due("into a full one", downs.pour(0, 1), 20);
        Check.due("1 scooped out of it", downs.pour(0, -1), 19);
    }

    private static void pourNothing() {
        Check.sentence("by: how much; less than 0 to scoop (at most all)");
        DewPond downs = Made.oneTight(0, 2, 1, 7);
        Check.due("0", downs.pour(0, 0), 7);
        Check.due("1", downs.pour(0, 1), 8);
        Check.due("-1", downs.pour(0, -1), 7);
    }

    private static void scoopAtMostAll() {
        Check.sentence("less than 0 to scoop (at most all)");
        DewPond downs = Made.oneTight(0, 60, 9, 50);
        Check.due("all but 1", downs.pour(0, -49), 1);
        Check.due("just all", downs.pour(0, -1), 0);
        Check.due("1 of none", downs.pour(0, -1), 0);
        downs.pour(0, 50);
        Check.due("1 more than there is", downs.pour(0, -51), 0);
        downs.pour(0, 50);
        Check.due("the most", downs.pour(0, -10000), 0);
    }

    private static void pourFrom10000To10000() {
        Check.sentence("if by is not -10000 to 10000");
        DewPond downs = Made.oneTight(0, 60, 9, 0);
        Check.due("10000", downs.pour(0, 10000), 5400);
        Check.due("-10000", downs.pour(0, -10000), 0);
        int[] wrong = {10001, -10001, Integer.MAX_VALUE, Integer.MIN_VALUE};
        for (int by : wrong) {
            Check.illegalArgument("by " + by, downs, () -> downs.pour(0, by));
        }
    }

    private static void pondTellsWhatItHolds() {
        Check.sentence("what: 0 x, 1 y, 2 its height, 3 its size, 4 what it holds, 5 its water, 6 its lining");
        DewPond downs = new DewPond();
        downs.dig(11, 22, 133, 14, 5);
        downs.puddle(0, 16);
        downs.pour(0, 17);
        int[] due = {11, 22, 133, 14, 700, 17, 16, 0, -1, 0, 0, 0};
        for (int what = 0; what < due.length; what++) {
            Check.due("what " + what, downs.pond(0, what), due[what]);
        }
    }

    private static void pondTellsFlocksThatAreNotLost() {
        Check.sentence("9 the flocks there that are not lost");
        DewPond downs = Made.oneTight(0, 60, 9, 0);
        Made.tight(downs, 1, 0, 60, 9, 5000);
        Check.due("none", downs.pond(0, 9), 0);
        for (int flock = 0; flock < 6; flock++) {
            downs.addFlock(flock < 4 ? 0 : 1, 5);
        }
        Check.due("four", downs.pond(0, 9), 4);
        downs.drive(0, 1);
        Check.due("one has gone", downs.pond(0, 9), 3);
        Check.due("one has come", downs.pond(1, 9), 3);
        downs.pass(3);
        Check.due("with a thirst of 9", downs.pond(0, 9), 3);
        downs.drive(1, 1);
        downs.pass(1);
        Check.due("two are lost", downs.pond(0, 9), 0);
        Check.due("four are not", downs.pond(1, 9), 4);
    }

    private static void pondTellsWhatRanOverInAll() {
        Check.sentence("10 how much was more than it holds in step 6, in all (also what is gone)");
        DewPond downs = Made.oneTight(10, 2, 1, 18);
        Made.tight(downs, 1, 0, 60, 9, 0);
        downs.setWeather(0, 0, 9, 0);
        downs.pass(1);
        Check.due("gone", downs.pond(0, 10), 7);
        downs.link(0, 1);
        downs.pass(10);
        Check.due("into another, added", downs.pond(0, 10), 16);
        downs.pass(100);
        Check.due("ten times more", downs.pond(0, 10), 106);
        Check.due("the other has not run over", downs.pond(1, 10), 0);
    }

    private static void pondTellsWhatRanOverInStep6Alone() {
        Check.sentence("10 how much was more than it holds in step 6, in all (also what is gone)");
        DewPond downs = Made.oneTight(10, 2, 1, 0);
        downs.pour(0, 10000);
        Check.due("not what is poured over", downs.pond(0, 10), 0);
        downs.addFlock(0, 4);
        downs.setWeather(0, 0, 4, 0);
        downs.pass(1);
        Check.due("not what is drunk before", downs.pond(0, 10), 0);
        downs.foresee(0, 100);
        downs.lasts(0);
        downs.keep(0, 50);
        downs.advise(50);
        Check.due("not what is foreseen", downs.pond(0, 10), 0);
    }

    private static void pondTellsWhoseWaterComes() {
        Check.sentence("11 the ponds from which water can come to it by running over");
        DewPond downs = stairs();
        Check.due("none", downs.pond(9, 11), 0);
        downs.link(0, 3);
        downs.link(1, 3);
        downs.link(3, 8);
        downs.link(5, 8);
        downs.link(8, 9);
        Check.due("two right into it", downs.pond(3, 11), 1 + 2);
        Check.due("also from farther up", downs.pond(8, 11), 1 + 2 + 8 + 32);
        Check.due("and down", downs.pond(9, 11), 1 + 2 + 8 + 32 + 256);
        Check.due("none into the highest", downs.pond(0, 11), 0);
        Check.due("none into one beside them", downs.pond(4, 11), 0);
        downs.link(3, 4);
        Check.due("led off: the one", downs.pond(8, 11), 32);
        Check.due("led off: the other", downs.pond(4, 11), 1 + 2 + 8);
        downs.link(3, -1);
        Check.due("cut off", downs.pond(4, 11), 0);
    }

    private static void pondIsNotItsOwnSource() {
        Check.sentence("itself not counted");
        DewPond downs = stairs();
        downs.link(0, 1);
        downs.link(1, 2);
        Check.due("pond 0", downs.pond(0, 11), 0);
        Check.due("pond 1", downs.pond(1, 11), 1);
        Check.due("pond 2", downs.pond(2, 11), 3);
    }

    private static void pondTellsAllTenPowers() {
        Check.sentence("as the sum of the powers 2^k of their numbers");
        DewPond downs = new DewPond();
        for (int pond = 0; pond < 10; pond++) {
            downs.dig(pond, 0, pond, 1, 1);
        }
        for (int pond = 9; pond > 0; pond--) {
            downs.link(pond, pond - 1);
        }
        for (int pond = 0; pond < 10; pond++) {
            int due = 0;
            for (int higher = pond + 1; higher < 10; higher++) {
                due += 1 << higher;
            }
            Check.due("a chain down to pond " + pond, downs.pond(pond, 11), due);
        }
    }

    /** Ten dry ponds that hold 200, each lower than the one before. */
    private static DewPond stairs() {
        DewPond downs = new DewPond();
        for (int pond = 0; pond < 10; pond++) {
            downs.dig(pond, 0, 100 - 10 * pond, 10, 2);
        }
        return downs;
    }
}
