import java.math.BigInteger;

/** Promises 14 to 21: each sentence that names an edge, by a test of its own. Refused calls are in RefusalsTest. */
public final class AheadEdgesTest {
    public static void main(String[] args) {
        pass1To100();
        passReturnsWhatIsDrunkInThem();
        passWithoutPondsOrFlocks();
        passDaysAreAsOneByOne();
        countOfEachKind();
        countOfLostFlocks();
        countOfPondsWithoutWater();
        countOfSheepThatAreNotLost();
        countOfAllWater();
        foresee1To100();
        foreseeIsWhatComes();
        foreseeRunningOver();
        foreseeRoaming();
        foreseeChangesNothing();
        foreseeAnEmptyAndAFullPond();
        lasts0IfItIsNow();
        lasts1();
        lastsAtMost200();
        lastsNotWithinSoMany();
        lastsForTheFirstTime();
        lastsBehindTheDayAlone();
        lastsChangesNothing();
        keepUpTo80();
        keepDownTo1();
        keep0IfThereIsNone();
        keep1To50Days();
        keepBehindEachDay();
        keepTheGreatest();
        keepThatDrinksLast();
        keepBesideSixFlocks();
        keepBesideLostFlocks();
        keepChangesNothing();
        adviseWithoutPonds();
        adviseThoseThatCanBePuddled();
        adviseAsMuchAsGoesIntoTheLining();
        adviseAsMuchAsTheHeapHas();
        adviseWithAnEmptyHeap();
        adviseALinedPond();
        adviseByAllWater();
        adviseIsWhatComes();
        adviseTheSmallestNumber();
        adviseNoneIfNotMore();
        advise1To50Days();
        adviseChangesNothing();
        full0WithoutPonds();
        fullOfDryPonds();
        fullOfFullPonds();
        fullIsNotCut();
        digestOfANewObject();
        digestOfAFullHouse();
        digestWrapsAround();
        digestChangesNothing();
        Check.end();
    }

    private static void pass1To100() {
        Check.sentence("if days is not 1 to 100");
        DewPond downs = new DewPond();
        downs.pass(1);
        Check.due("the least", downs.count(0), 1);
        downs.pass(100);
        Check.due("the most", downs.count(0), 101);
        int[] wrong = {0, 101, -1, Integer.MIN_VALUE, Integer.MAX_VALUE};
        for (int days : wrong) {
            Check.illegalArgument("days " + days, downs, () -> downs.pass(days));
        }
    }

    private static void passReturnsWhatIsDrunkInThem() {
        Check.sentence("Returns how much flocks drank in them.");
        DewPond downs = Made.oneTight(0, 60, 9, 100);
        downs.addFlock(0, 4);
        downs.addFlock(0, 5);
        Check.due("one day", downs.pass(1), 18);
        Check.due("three more, without the first", downs.pass(3), 54);
        Check.due("till there is no more", downs.pass(100), 28);
        Check.due("none", downs.pass(1), 0);
    }

    private static void passWithoutPondsOrFlocks() {
        Check.sentence("Returns how much flocks drank in them.");
        DewPond downs = new DewPond();
        Check.due("no ponds", downs.pass(100), 0);
        downs.dig(0, 0, 0, 60, 9);
        downs.pour(0, 5400);
        Check.due("no flocks", downs.pass(100), 0);
    }

    private static void passDaysAreAsOneByOne() {
        Check.sentence("Lets days go by.");
        DewPond once = Made.busy();
        DewPond oneByOne = Made.busy();
        int drunk = 0;
        for (int day = 0; day < 100; day++) {
            drunk += oneByOne.pass(1);
        }
        Check.due("drunk", once.pass(100), drunk);
        Check.due("digest", once.digest(), oneByOne.digest());
    }

    private static void countOfEachKind() {
        Check.sentence("what: 0 the day, 1 ponds, 2 flocks, 3 flocks that are lost, 4 clay on the heap");
        DewPond downs = Made.busy();
        int[] due = {12, 4, 3, 1, 50, 475, 2, 34};
        for (int what = 0; what < due.length; what++) {
            Check.due("what " + what, downs.count(what), due[what]);
        }
        int[] wrong = {-1, 8, Integer.MIN_VALUE, Integer.MAX_VALUE};
        for (int what : wrong) {
            Check.outOfBounds("what " + what, downs, () -> downs.count(what));
        }
    }

    private static void countOfLostFlocks() {
        Check.sentence("3 flocks that are lost");
        DewPond downs = Made.fullHouse();
        Check.due("none", downs.count(3), 0);
        downs.pass(3);
        Check.due("with a thirst of 9", downs.count(3), 0);
        downs.pour(0, 200);
        downs.pass(1);
        Check.due("all but one", downs.count(3), 5);
        Check.due("flocks are yet", downs.count(2), 6);
    }

    private static void countOfPondsWithoutWater() {
        Check.sentence("6 ponds without water");
        DewPond downs = Made.fullHouse();
        Check.due("all", downs.count(6), 10);
        downs.pour(9, 1);
        Check.due("1 is water", downs.count(6), 9);
        for (int pond = 0; pond < 10; pond++) {
            downs.pour(pond, 200);
        }
        Check.due("none", downs.count(6), 0);
    }

    private static void countOfSheepThatAreNotLost() {
        Check.sentence("7 sheep that are not lost");
        DewPond downs = Made.fullHouse();
        Check.due("10 to 15", downs.count(7), 75);
        downs.pass(3);
        Check.due("with a thirst of 9", downs.count(7), 75);
        downs.pour(2, 200);
        downs.pass(1);
        Check.due("12 alone", downs.count(7), 12);
    }

    private static void countOfAllWater() {
        Check.sentence("5 all water");
        DewPond downs = Made.fullHouse();
        Check.due("none", downs.count(5), 0);
        for (int pond = 0; pond < 10; pond++) {
            downs.pour(pond, 10000);
        }
        Check.due("all full", downs.count(5), 2000);
        downs.pour(9, -1);
        Check.due("1 less", downs.count(5), 1999);
    }

    private static void foresee1To100() {
        Check.sentence("days: how many, 1 to 100");
        DewPond downs = Made.oneTight(0, 2, 9, 0);
        for (int day = 0; day < 10; day++) {
            downs.setWeather(day, 0, 1, 0);
        }
        Check.due("the least", downs.foresee(0, 1), 1);
        Check.due("the most", downs.foresee(0, 100), 100);
        int[] wrong = {0, 101, -1, Integer.MIN_VALUE, Integer.MAX_VALUE};
        for (int days : wrong) {
            Check.illegalArgument("days " + days, downs, () -> downs.foresee(0, days));
        }
    }

    private static void foreseeIsWhatComes() {
        Check.sentence("Returns its water then, if nothing is done");
        for (int pond = 0; pond < 4; pond++) {
            DewPond downs = Made.busy();
            int[] foreseen = new int[101];
            for (int days = 1; days <= 100; days++) {
                foreseen[days] = downs.foresee(pond, days);
            }
            for (int days = 1; days <= 100; days++) {
                downs.pass(1);
                Check.due("foresee(" + pond + ", " + days + ")", foreseen[days], downs.pond(pond, 5));
            }
        }
    }

    private static void foreseeRunningOver() {
        Check.sentence("Returns its water then, if nothing is done");
        DewPond downs = Made.oneTight(0, 60, 9, 0);
        Made.tight(downs, 1, 10, 2, 1, 20);
        Made.tight(downs, 2, 20, 2, 1, 20);
        Made.tight(downs, 3, 30, 2, 1, 18);
        downs.link(3, 2);
        downs.link(2, 1);
        downs.link(1, 0);
        downs.setWeather(0, 0, 1, 0);
        downs.setWeather(1, 0, 2, 0);
        Check.due("1 of each of two, and rain", downs.foresee(0, 1), 2 + 30);
        Check.due("2 of each of two, 1 of the third, and rain", downs.foresee(0, 2), 32 + 5 + 60);
    }

    private static void foreseeRoaming() {
        Check.sentence("Returns its water then, if nothing is done");
        DewPond downs = new DewPond();
        Made.tight(downs, 20, 0, 60, 9, 100);
        Made.tight(downs, 30, 0, 60, 9, 0);
        Made.tight(downs, 27, 0, 60, 9, 100);
        downs.dig(30, 4, 0, 60, 9);
        downs.bring(100);
        downs.puddle(3, 100);
        downs.pour(3, 100);
        downs.addFlock(1, 9);
        downs.setRoams(0, true);
        int[] due = {100, 0, 82, 100};
        for (int pond = 0; pond < 4; pond++) {
            Check.due("the flock will have gone to the nearest: pond " + pond, downs.foresee(pond, 2), due[pond]);
        }
    }

    private static void foreseeChangesNothing() {
        Check.sentence("Returns its water then, if nothing is done (nothing is changed).");
        changesNothing("foresee", () -> {
            DewPond downs = Made.busy();
            for (int pond = 0; pond < 4; pond++) {
                downs.foresee(pond, 1);
                downs.foresee(pond, 100);
            }
            return downs;
        });
    }

    private static void foreseeAnEmptyAndAFullPond() {
        Check.sentence("Returns its water then, if nothing is done");
        DewPond downs = Made.oneTight(0, 60, 1, 0);
        Check.due("empty", downs.foresee(0, 100), 0);
        downs.pour(0, 600);
        Check.due("full", downs.foresee(0, 100), 600);
        downs.setWeather(0, 9, 9, 0);
        Check.due("no more than it holds", downs.foresee(0, 1), 600);
    }

    private static void lasts0IfItIsNow() {
        Check.sentence("0 if it is now");
        DewPond downs = Made.oneTight(0, 60, 9, 0);
        Check.due("dry", downs.lasts(0), 0);
        downs.setWeather(0, 9, 9, 0);
        Check.due("dry, though it will rain", downs.lasts(0), 0);
        downs.pour(0, 1);
        Check.due("not dry", downs.lasts(0), -1);
    }

    private static void lasts1() {
        Check.sentence("Returns behind how many days it is without water for the first time");
        DewPond downs = Made.oneTight(0, 60, 9, 10);
        downs.addFlock(0, 5);
        Check.due("1", downs.lasts(0), 1);
        downs.pour(0, 1);
        Check.due("2", downs.lasts(0), 2);
    }

    private static void lastsAtMost200() {
        Check.sentence("at most 200");
        DewPond downs = Made.oneTight(0, 60, 9, 1990);
        downs.addFlock(0, 5);
        Check.due("199", downs.lasts(0), 199);
        downs.pour(0, 10);
        Check.due("200", downs.lasts(0), 200);
        downs.pour(0, 1);
        Check.due("201", downs.lasts(0), -1);
    }

    private static void lastsNotWithinSoMany() {
        Check.sentence("-1 if not within so many");
        DewPond downs = Made.oneTight(0, 60, 9, 1);
        Check.due("it never is", downs.lasts(0), -1);
        DewPond leaks = Made.oneLined(0, 5400);
        Check.due("the last 1 does not leak", leaks.lasts(0), -1);
    }

    private static void lastsForTheFirstTime() {
        Check.sentence("for the first time");
        DewPond downs = Made.oneTight(0, 10, 9, 10);
        for (int day = 0; day < 10; day += 2) {
            downs.setWeather(day, 0, 0, 9);
            downs.setWeather(day + 1, 0, 9, 0);
        }
        Check.due("dry on each other day", downs.lasts(0), 1);
        downs.pour(0, 9);
        downs.setWeather(1, 0, 0, 1);
        Check.due("behind the second", downs.lasts(0), 2);
    }

    private static void lastsBehindTheDayAlone() {
        Check.sentence("behind how many days it is without water");
        DewPond downs = Made.oneTight(10, 60, 1, 600);
        Made.tight(downs, 1, 0, 1, 9, 2);
        downs.link(0, 1);
        downs.addFlock(1, 1);
        for (int day = 0; day < 10; day++) {
            downs.setWeather(day, 0, 1, 0);
        }
        Check.due("drunk up each day, but not behind it", downs.lasts(1), -1);
        downs.link(0, -1);
        Check.due("drunk up", downs.lasts(1), 1);
    }

    private static void lastsChangesNothing() {
        Check.sentence("-1 if not within so many (nothing is changed)");
        changesNothing("lasts", () -> {
            DewPond downs = Made.busy();
            for (int pond = 0; pond < 4; pond++) {
                downs.lasts(pond);
            }
            return downs;
        });
    }

    private static void keepUpTo80() {
        Check.sentence("Returns the greatest number of sheep, 1 to 80");
        Check.due("158", Made.oneTight(0, 60, 9, 158).keep(0, 1), 79);
        Check.due("159", Made.oneTight(0, 60, 9, 159).keep(0, 1), 79);
        Check.due("160", Made.oneTight(0, 60, 9, 160).keep(0, 1), 80);
        Check.due("162", Made.oneTight(0, 60, 9, 162).keep(0, 1), 80);
        Check.due("full", Made.oneTight(0, 60, 9, 5400).keep(0, 1), 80);
    }

    private static void keepDownTo1() {
        Check.sentence("Returns the greatest number of sheep, 1 to 80");
        Check.due("2", Made.oneTight(0, 60, 9, 2).keep(0, 1), 1);
        Check.due("3", Made.oneTight(0, 60, 9, 3).keep(0, 1), 1);
        Check.due("4", Made.oneTight(0, 60, 9, 4).keep(0, 1), 2);
    }

    private static void keep0IfThereIsNone() {
        Check.sentence("0 if there is no such number");
        Check.due("0", Made.oneTight(0, 60, 9, 0).keep(0, 1), 0);
        Check.due("1", Made.oneTight(0, 60, 9, 1).keep(0, 1), 0);
        Check.due("0 for 50 days", Made.oneTight(0, 60, 9, 0).keep(0, 50), 0);
    }

    private static void keep1To50Days() {
        Check.sentence("days: how many, 1 to 50");
        DewPond downs = Made.oneTight(0, 60, 9, 100);
        Check.due("1", downs.keep(0, 1), 50);
        Check.due("2", downs.keep(0, 2), 25);
        downs.strew(0, true);
        Check.due("49", downs.keep(0, 49), 1);
        Check.due("50", downs.keep(0, 50), 1);
        downs.pour(0, -1);
        Check.due("49 with 1 less", downs.keep(0, 49), 1);
        Check.due("50 with 1 less", downs.keep(0, 50), 0);
        int[] wrong = {0, 51, -1, Integer.MIN_VALUE, Integer.MAX_VALUE};
        for (int days : wrong) {
            Check.illegalArgument("days " + days, downs, () -> downs.keep(0, days));
        }
    }

    private static void keepBehindEachDay() {
        Check.sentence("would have no thirst behind each of so many days");
        DewPond downs = Made.oneTight(0, 60, 9, 0);
        for (int day = 1; day < 10; day++) {
            downs.setWeather(day, 0, 9, 0);
        }
        Check.due("thirst of the first day alone", downs.keep(0, 9), 0);
        downs.pass(1);
        Check.due("with rain on each of the days", downs.keep(0, 9), 80);
        downs.pass(8);
        Made.fill(downs, 0, 0);
        Check.due("rain on the last day", downs.keep(0, 1), 80);
        // 66 of them leave 138 of 270, of which 4 leak by a lining of 94; 67 would leave 2 less than they need.
        Check.due("and what is left of it on the next", downs.keep(0, 2), 66);
    }

    private static void keepTheGreatest() {
        Check.sentence("whatever smaller numbers would");
        // On day 2 flock 0, that roams, still has thirst: if up to 20 new sheep have left it 60 here, it stays
        // and leaves too little for 11 of them; if more have not, it goes away, and there is enough for 25.
        DewPond downs = new DewPond();
        downs.dig(0, 0, 0, 60, 9);
        downs.dig(1, 0, 0, 60, 9);
        downs.puddle(0, 100);
        downs.strew(0, true);
        downs.addFlock(0, 30);
        downs.setRoams(0, true);
        downs.pass(1);
        downs.pour(0, 160);
        downs.pour(1, 5000);
        Check.due("11 to 20 would have thirst", downs.keep(0, 2), 25);
    }

    private static void keepThatDrinksLast() {
        Check.sentence("with which a new flock at this pond now");
        DewPond downs = Made.oneTight(0, 60, 9, 100);
        downs.addFlock(0, 30);
        Check.due("60 are drunk first", downs.keep(0, 1), 20);
        downs.addFlock(0, 20);
        Check.due("all is drunk first", downs.keep(0, 1), 0);
    }

    private static void keepBesideSixFlocks() {
        Check.sentence("the number of flocks does not matter");
        DewPond downs = Made.oneTight(0, 60, 9, 100);
        for (int flock = 0; flock < 6; flock++) {
            downs.addFlock(0, 6);
        }
        Check.due("100 less 72", downs.keep(0, 1), 14);
        Check.due("flocks are six yet", downs.count(2), 6);
        Check.outOfBounds("there is no seventh", downs, () -> downs.flock(6, 0));
    }

    private static void keepBesideLostFlocks() {
        Check.sentence("the number of flocks does not matter");
        DewPond downs = Made.oneTight(0, 60, 9, 0);
        for (int flock = 0; flock < 6; flock++) {
            downs.addFlock(0, 6);
        }
        downs.pass(4);
        downs.pour(0, 100);
        Check.due("lost ones leave it all", downs.keep(0, 1), 50);
    }

    private static void keepChangesNothing() {
        Check.sentence("the number of flocks does not matter; nothing is changed");
        changesNothing("keep", () -> {
            DewPond downs = Made.busy();
            for (int pond = 0; pond < 4; pond++) {
                downs.keep(pond, 1);
                downs.keep(pond, 50);
            }
            return downs;
        });
    }

    private static void adviseWithoutPonds() {
        Check.sentence("Returns this pond (nothing is changed); -1 if none.");
        DewPond downs = new DewPond();
        Check.due("1 day", downs.advise(1), -1);
        Check.due("50 days", downs.advise(50), -1);
    }

    private static void adviseThoseThatCanBePuddled() {
        Check.sentence("of those that can be puddled now");
        DewPond downs = new DewPond();
        downs.dig(0, 0, 0, 3, 9);
        downs.dig(1, 0, 0, 3, 8);
        downs.pour(0, 67);
        downs.pour(1, 50);
        Check.due("just a quarter (cut) of 270", downs.advise(1), 0);
        downs.pour(0, 1);
        Check.due("1 more", downs.advise(1), 1);
        downs.pour(1, 11);
        Check.due("1 more than a quarter of 240", downs.advise(1), -1);
    }

    private static void adviseAsMuchAsGoesIntoTheLining() {
        Check.sentence("as much of it as goes into the lining of one");
        DewPond downs = Made.oneLined(95, 1000);
        downs.dig(1, 0, 0, 60, 9);
        downs.pour(1, 500);
        for (int k = 0; k < 4; k++) {
            downs.bring(100);
        }
        // Of 405 clay pond 0 takes 5, and has 25 more with them; pond 1 takes 100, and has 250 more.
        Check.due("the one into which more goes", downs.advise(1), 1);
    }

    private static void adviseAsMuchAsTheHeapHas() {
        Check.sentence("Looks for the pond where the heap of clay had best be used");
        DewPond downs = Made.oneLined(95, 1000);
        downs.dig(1, 0, 0, 60, 9);
        downs.pour(1, 500);
        // Of 5 clay pond 0 takes 5, and has 25 more with them; pond 1 takes 5, and has 12 more.
        Check.due("with 5 clay", downs.advise(1), 0);
        downs.bring(1);
        // Of 6 clay pond 1 takes 6, and has 15 more.
        Check.due("with 6 clay", downs.advise(1), 0);
        downs.bring(5);
        // Of 11 clay pond 1 takes 11, and has 27 more.
        Check.due("with 11 clay", downs.advise(1), 1);
    }

    private static void adviseWithAnEmptyHeap() {
        Check.sentence("but none, if it is not more than without");
        DewPond downs = Made.oneLined(100, 0);
        downs.dig(1, 0, 0, 60, 9);
        downs.pour(1, 1000);
        Check.due("the heap is empty", downs.advise(1), -1);
        downs.bring(1);
        Check.due("the heap has 1", downs.advise(1), 1);
    }

    private static void adviseALinedPond() {
        Check.sentence("but none, if it is not more than without");
        DewPond downs = Made.oneLined(100, 1000);
        downs.bring(100);
        Check.due("nothing goes into it", downs.advise(50), -1);
    }

    private static void adviseByAllWater() {
        Check.sentence("the one with which all water is most behind so many days");
        DewPond downs = new DewPond();
        downs.dig(0, 0, 150, 60, 1);
        downs.dig(1, 0, 0, 60, 9);
        downs.puddle(0, 10);
        downs.puddle(1, 90);
        downs.bring(100);
        downs.puddle(1, 10);
        downs.link(0, 1);
        for (int day = 0; day < 10; day++) {
            downs.setWeather(day, 9, 9, 0);
        }
        Check.due("pond 0 is full by then without more clay", downs.foresee(0, 10), 600);
        Check.due("but it is full sooner with it, and more runs over", downs.advise(10), 0);
    }

    private static void adviseIsWhatComes() {
        Check.sentence("the one with which all water is most behind so many days");
        DewPond busy = Made.busy();
        int[] water = new int[4];
        for (int pond = 0; pond < 4; pond++) {
            DewPond tried = Made.busy();
            if (pond != 0) {
                tried.puddle(pond, 100);
            }
            tried.pass(50);
            water[pond] = tried.count(5);
        }
        int best = 0;
        for (int pond = 1; pond < 4; pond++) {
            best = water[pond] > water[best] ? pond : best;
        }
        Check.due("as it comes, pond 0 being too full", busy.advise(50), best == 0 ? -1 : best);
    }

    private static void adviseTheSmallestNumber() {
        Check.sentence("of several the one with the smallest number");
        DewPond downs = new DewPond();
        for (int pond = 0; pond < 10; pond++) {
            downs.dig(pond, 0, 0, 60, 9);
            downs.pour(pond, pond == 0 || pond == 5 ? 400 : 500);
        }
        Check.due("of 1 to 4 and 6 to 9", downs.advise(1), 1);
        downs.pour(9, 2);
        Check.due("9 is best alone", downs.advise(1), 9);
    }

    private static void adviseNoneIfNotMore() {
        Check.sentence("but none, if it is not more than without");
        DewPond downs = Made.oneLined(0, 0);
        Check.due("a dry pond", downs.advise(50), -1);
        downs.pour(0, 1);
        Check.due("1 does not leak", downs.advise(50), -1);
        downs.pour(0, 1);
        Check.due("of 2 leaks 1", downs.advise(1), 0);
        DewPond drunk = Made.oneLined(0, 100);
        drunk.addFlock(0, 50);
        Check.due("all is drunk before it leaks", drunk.advise(1), -1);
    }

    private static void advise1To50Days() {
        Check.sentence("if days is not 1 to 50");
        DewPond downs = Made.oneLined(0, 0);
        for (int day = 0; day < 9; day++) {
            downs.setWeather(day, 0, 0, 9);
        }
        downs.setWeather(9, 0, 1, 0);
        Check.due("50: rain on the last of them", downs.advise(50), 0);
        Check.due("49: all is dry behind them", downs.advise(49), -1);
        downs.pass(9);
        Check.due("1: rain", downs.advise(1), 0);
        Check.due("2: all is dry behind them", downs.advise(2), -1);
        int[] wrong = {0, 51, -1, Integer.MIN_VALUE, Integer.MAX_VALUE};
        for (int days : wrong) {
            Check.illegalArgument("days " + days, downs, () -> downs.advise(days));
        }
    }

    private static void adviseChangesNothing() {
        Check.sentence("Returns this pond (nothing is changed)");
        changesNothing("advise", () -> {
            DewPond downs = Made.busy();
            downs.advise(1);
            downs.advise(50);
            return downs;
        });
    }

    private static void full0WithoutPonds() {
        Check.sentence("0 if there are none");
        DewPond downs = new DewPond();
        Check.due("without ponds", downs.full(), 0.0);
        Check.due("it is 0, not -0", Double.doubleToRawLongBits(downs.full()), 0L);
    }

    private static void fullOfDryPonds() {
        Check.sentence("Returns all water, divided by what all ponds hold");
        Check.due("dry", Made.fullHouse().full(), 0.0);
    }

    private static void fullOfFullPonds() {
        Check.sentence("Returns all water, divided by what all ponds hold");
        DewPond downs = Made.fullHouse();
        for (int pond = 0; pond < 10; pond++) {
            downs.pour(pond, 200);
        }
        Check.due("full", downs.full(), 1.0);
        downs.pour(4, -1);
        Check.due("1 less", downs.full(), 1999.0 / 2000.0);
    }

    private static void fullIsNotCut() {
        Check.sentence("Returns all water, divided by what all ponds hold");
        DewPond downs = new DewPond();
        downs.dig(0, 0, 0, 60, 9);
        downs.dig(1, 0, 0, 3, 1);
        downs.pour(0, 1);
        Check.due("1 of 5430", downs.full(), 1.0 / 5430.0);
        downs.pour(1, 6);
        Check.due("7 of 5430, no mean of both", downs.full(), 7.0 / 5430.0);
    }

    private static void digestOfANewObject() {
        Check.sentence("A number d starts with 587");
        Check.due("digest", new DewPond().digest(), digestByHand(new DewPond(), new int[10]));
    }

    private static void digestOfAFullHouse() {
        Check.sentence("what count() tells, in its order; for each day of the table 100 * mist and 10 * rain and sun");
        DewPond downs = Made.fullHouse();
        int[] weather = new int[10];
        for (int day = 0; day < 10; day++) {
            downs.setWeather(day, 9 - day, day, (day * 3) % 10);
            weather[day] = 100 * (9 - day) + 10 * day + (day * 3) % 10;
        }
        downs.link(9, 3);
        downs.setRoams(5, true);
        downs.strew(4, true);
        downs.pass(7);
        Check.due("digest", downs.digest(), digestByHand(downs, weather));
    }

    private static void digestWrapsAround() {
        Check.sentence("d becomes d * 31 + x, which wraps around as a 64-bit integer");
        boolean isBelow0 = false;
        boolean isAbove0 = false;
        DewPond downs = new DewPond();
        for (int day = 0; day < 20; day++) {
            long digest = downs.digest();
            Check.due("behind " + day + " days", digest, digestByHand(downs, new int[10]));
            isBelow0 |= digest < 0;
            isAbove0 |= digest > 0;
            downs.pass(1);
        }
        downs.dig(0, 0, 0, 1, 1);
        for (int k = 0; k < 5; k++) {
            long digest = downs.digest();
            Check.due("with water " + k, digest, digestByHand(downs, new int[10]));
            isBelow0 |= digest < 0;
            isAbove0 |= digest > 0;
            downs.pour(0, 1);
        }
        Check.due("it was below 0 once", isBelow0, true);
        Check.due("it was above 0 once", isAbove0, true);
    }

    private static void digestChangesNothing() {
        Check.sentence("Computes a checksum.");
        changesNothing("digest", () -> {
            DewPond downs = Made.busy();
            downs.digest();
            downs.digest();
            return downs;
        });
    }

    /** The digest, reckoned without a bound and cut to 64 bits at the end alone. */
    private static long digestByHand(DewPond downs, int[] weather) {
        BigInteger sum = BigInteger.valueOf(587);
        for (int what = 0; what <= 7; what++) {
            sum = next(sum, downs.count(what));
        }
        for (int number : weather) {
            sum = next(sum, number);
        }
        for (int pond = 0; pond < downs.count(1); pond++) {
            for (int what = 0; what <= 11; what++) {
                sum = next(sum, downs.pond(pond, what));
            }
        }
        for (int flock = 0; flock < downs.count(2); flock++) {
            for (int what = 0; what <= 5; what++) {
                sum = next(sum, downs.flock(flock, what));
            }
        }
        return sum.longValue();
    }

    private static BigInteger next(BigInteger sum, int number) {
        return sum.multiply(BigInteger.valueOf(31)).add(BigInteger.valueOf(number));
    }

    private interface Making {
        DewPond made();
    }

    /** What was only asked is now, and behind days, as what was not asked. */
    private static void changesNothing(String what, Making asked) {
        DewPond told = asked.made();
        DewPond untold = Made.busy();
        Check.due(what + ": now", told.digest(), untold.digest());
        for (int days = 1; days <= 30; days += 7) {
            Check.due(what + ": drunk in " + days + " days", told.pass(days), untold.pass(days));
            Check.due(what + ": behind them", told.digest(), untold.digest());
        }
    }
}
