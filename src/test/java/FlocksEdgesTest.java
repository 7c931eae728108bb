/** Promises 8 to 13: each sentence that names an edge, by a test of its own. Refused calls are in RefusalsTest. */
public final class FlocksEdgesTest {
    public static void main(String[] args) {
        setWeatherOfDays0To9();
        setWeatherOfOneDayAlone();
        setWeatherReturnsTheOneBefore();
        setWeatherOfToday();
        bring1To100();
        bringUpTo500();
        bringReturnsWhatThereIsThen();
        addFlockOf1To80();
        addFlockTheSixth();
        addFlockReturnsItsNumber();
        addFlockAtTheLastPond();
        driveToWhereItIs();
        driveTheFarthest();
        driveReturnsHowFar();
        driveWithAThirstOf9();
        driveChangesNoThirst();
        driveOneThatRoams();
        setRoamsReturnsWhetherItDid();
        setRoamsTwice();
        setRoamsOfOneAlone();
        setRoamsOfALostOne();
        flockTellsItsPond();
        flockTellsItsThirst();
        flockTellsWhetherItIsLost();
        flockTellsWhatItHasDrunkInAll();
        flockTellsItsOwn();
        Check.end();
    }

    private static void setWeatherOfDays0To9() {
        Check.sentence("day: the day, 0 to 9");
        DewPond downs = new DewPond();
        for (int day = 0; day < 10; day++) {
            Check.due("day " + day, downs.setWeather(day, 9 - day, day, day), 0);
        }
        for (int day = 0; day < 10; day++) {
            Check.due("day " + day + " again", downs.setWeather(day, 0, 0, 0), 100 * (9 - day) + 11 * day);
        }
        int[] wrong = {-1, 10, 11, Integer.MIN_VALUE, Integer.MAX_VALUE};
        for (int day : wrong) {
            Check.outOfBounds("day " + day, downs, () -> downs.setWeather(day, 1, 1, 1));
        }
    }

    private static void setWeatherOfOneDayAlone() {
        Check.sentence("Sets the weather of a day of the table.");
        DewPond downs = new DewPond();
        downs.setWeather(4, 1, 2, 3);
        for (int day = 0; day < 10; day++) {
            Check.due("day " + day, downs.setWeather(day, 0, 0, 0), day == 4 ? 123 : 0);
        }
    }

    private static void setWeatherReturnsTheOneBefore() {
        Check.sentence("Returns the weather before: 100 * mist and 10 * rain and sun.");
        DewPond downs = new DewPond();
        Check.due("at first", downs.setWeather(0, 9, 0, 0), 0);
        Check.due("mist", downs.setWeather(0, 0, 9, 0), 900);
        Check.due("rain", downs.setWeather(0, 0, 0, 9), 90);
        Check.due("sun", downs.setWeather(0, 9, 9, 9), 9);
        Check.due("all", downs.setWeather(0, 9, 9, 9), 999);
        Check.due("the same again", downs.setWeather(0, 0, 0, 0), 999);
        Check.due("none again", downs.setWeather(0, 0, 0, 0), 0);
    }

    private static void setWeatherOfToday() {
        Check.sentence("Sets the weather of a day of the table.");
        DewPond downs = Made.oneTight(0, 2, 9, 0);
        downs.pass(13);
        downs.setWeather(2, 0, 5, 0);
        downs.pass(1);
        Check.due("not on the day 13", downs.pond(0, 5), 0);
        downs.setWeather(4, 0, 7, 0);
        downs.pass(1);
        Check.due("on the day 14", downs.pond(0, 5), 7);
    }

    private static void bring1To100() {
        Check.sentence("if clay is not 1 to 100");
        DewPond downs = new DewPond();
        Check.due("the least", downs.bring(1), 101);
        Check.due("the most", downs.bring(100), 201);
        int[] wrong = {0, 101, -1, -100, Integer.MIN_VALUE, Integer.MAX_VALUE};
        for (int clay : wrong) {
            Check.illegalArgument("clay " + clay, downs, () -> downs.bring(clay));
        }
    }

    private static void bringUpTo500() {
        Check.sentence("if there would be more than 500");
        DewPond downs = new DewPond();
        for (int k = 0; k < 3; k++) {
            downs.bring(100);
        }
        downs.bring(1);
        Check.illegalState("401 and 100", downs, () -> downs.bring(100));
        Check.due("401 and 99", downs.bring(99), 500);
        Check.illegalState("500 and 1", downs, () -> downs.bring(1));
        downs.dig(0, 0, 0, 1, 1);
        downs.puddle(0, 1);
        Check.illegalState("499 and 2", downs, () -> downs.bring(2));
        Check.due("499 and 1", downs.bring(1), 500);
    }

    private static void bringReturnsWhatThereIsThen() {
        Check.sentence("Returns how much there is then.");
        DewPond downs = new DewPond();
        downs.dig(0, 0, 0, 1, 1);
        downs.puddle(0, 100);
        Check.due("to an empty heap", downs.bring(33), 33);
        Check.due("more", downs.bring(34), 67);
        Check.due("count(4)", downs.count(4), 67);
    }

    private static void addFlockOf1To80() {
        Check.sentence("if sheep is not 1 to 80");
        DewPond downs = Made.oneTight(0, 60, 9, 0);
        Check.due("the least", downs.addFlock(0, 1), 0);
        Check.due("the most", downs.addFlock(0, 80), 1);
        Check.due("sheep", downs.count(7), 81);
        int[] wrong = {0, 81, -1, Integer.MIN_VALUE, Integer.MAX_VALUE};
        for (int sheep : wrong) {
            Check.illegalArgument("sheep " + sheep, downs, () -> downs.addFlock(0, sheep));
        }
    }

    private static void addFlockTheSixth() {
        Check.sentence("if there are 6");
        DewPond downs = Made.oneTight(0, 60, 9, 0);
        for (int flock = 0; flock < 5; flock++) {
            downs.addFlock(0, 1);
        }
        Check.due("the 6th", downs.addFlock(0, 1), 5);
        Check.illegalState("the 7th", downs, () -> downs.addFlock(0, 1));
        downs.pass(4);
        Check.due("all are lost", downs.count(3), 6);
        Check.illegalState("the 7th, when all are lost", downs, () -> downs.addFlock(0, 1));
    }

    private static void addFlockReturnsItsNumber() {
        Check.sentence("Adds a flock at a pond. .. Returns its number.");
        DewPond downs = Made.busy();
        Check.due("the next", downs.addFlock(2, 44), 3);
        int[] due = {44, 2, 0, 0, 0, 0};
        for (int what = 0; what < due.length; what++) {
            Check.due("what " + what, downs.flock(3, what), due[what]);
        }
        downs.keep(0, 3);
        Check.due("also behind keep", downs.addFlock(3, 45), 4);
        Check.due("its sheep", downs.flock(4, 0), 45);
    }

    private static void addFlockAtTheLastPond() {
        Check.sentence("if there is no such pond");
        DewPond downs = Made.busy();
        Check.due("at the last", downs.addFlock(3, 1), 3);
        Check.outOfBounds("behind the last", downs, () -> downs.addFlock(4, 1));
        Check.outOfBounds("before the first", downs, () -> downs.addFlock(-1, 1));
        Check.due("at the first", downs.addFlock(0, 1), 4);
    }

    private static void driveToWhereItIs() {
        Check.sentence("Returns how far it goes.");
        DewPond downs = Made.busy();
        Check.due("nowhere", downs.drive(0, 0), 0);
        Check.due("where it is", downs.flock(0, 1), 0);
    }

    private static void driveTheFarthest() {
        Check.sentence("Returns how far it goes.");
        DewPond downs = new DewPond();
        downs.dig(0, 40, 0, 1, 1);
        downs.dig(40, 0, 300, 1, 1);
        downs.addFlock(0, 1);
        Check.due("from corner to corner", downs.drive(0, 1), 80);
        Check.due("and back", downs.drive(0, 0), 80);
    }

    private static void driveReturnsHowFar() {
        Check.sentence("Returns how far it goes.");
        DewPond downs = Made.busy();
        Check.due("0 to 1: from 3, 4 to 8, 4", downs.drive(0, 1), 5);
        Check.due("1 to 2: from 8, 4 to 8, 9", downs.drive(0, 2), 5);
        Check.due("2 to 0", downs.drive(0, 0), 10);
        Check.due("0 to 3: to 30, 30", downs.drive(0, 3), 53);
        Check.due("3 to 2", downs.drive(0, 2), 43);
        Check.due("where it is", downs.flock(0, 1), 2);
        Check.due("another one is where it was", downs.flock(1, 1), 1);
    }

    private static void driveWithAThirstOf9() {
        Check.sentence("if the flock is lost");
        DewPond downs = Made.oneTight(0, 60, 9, 0);
        Made.tight(downs, 7, 0, 60, 9, 0);
        downs.addFlock(0, 1);
        downs.pass(3);
        Check.due("thirst 9", downs.drive(0, 1), 7);
        downs.pass(1);
        Check.illegalState("thirst 10", downs, () -> downs.drive(0, 0));
        Check.illegalState("thirst 10, to where it is", downs, () -> downs.drive(0, 1));
    }

    private static void driveChangesNoThirst() {
        Check.sentence("Drives a flock to a pond.");
        DewPond downs = Made.oneTight(0, 60, 9, 0);
        Made.tight(downs, 7, 0, 60, 9, 100);
        downs.addFlock(0, 11);
        downs.pass(1);
        downs.drive(0, 1);
        int[] due = {11, 1, 3, 0, 0, 0};
        for (int what = 0; what < due.length; what++) {
            Check.due("what " + what, downs.flock(0, what), due[what]);
        }
        Check.due("the water is as it was", downs.pond(1, 5), 100);
        Check.due("it drinks there on the next day", downs.pass(1), 22);
    }

    private static void driveOneThatRoams() {
        Check.sentence("Drives a flock to a pond.");
        DewPond downs = Made.busy();
        downs.drive(1, 3);
        Check.due("where it is", downs.flock(1, 1), 3);
        Check.due("it roams yet", downs.flock(1, 3), 1);
    }

    private static void setRoamsReturnsWhetherItDid() {
        Check.sentence("Returns whether it did.");
        DewPond downs = Made.busy();
        Check.due("it stayed", downs.setRoams(0, true), false);
        Check.due("it roamed", downs.setRoams(0, false), true);
        Check.due("it stayed again", downs.setRoams(0, true), false);
    }

    private static void setRoamsTwice() {
        Check.sentence("Returns whether it did.");
        DewPond downs = Made.busy();
        Check.due("stays, as before", downs.setRoams(0, false), false);
        Check.due("flock(0, 3)", downs.flock(0, 3), 0);
        Check.due("roams, as before", downs.setRoams(1, true), true);
        Check.due("flock(1, 3)", downs.flock(1, 3), 1);
    }

    private static void setRoamsOfOneAlone() {
        Check.sentence("Tells whether a flock roams.");
        DewPond downs = Made.fullHouse();
        downs.setRoams(5, true);
        for (int flock = 0; flock < 6; flock++) {
            Check.due("flock " + flock, downs.flock(flock, 3), flock == 5 ? 1 : 0);
        }
    }

    private static void setRoamsOfALostOne() {
        Check.sentence("Tells whether a flock roams.");
        DewPond downs = Made.busy();
        Check.due("a lost one is told, too", downs.setRoams(2, true), false);
        Check.due("flock(2, 3)", downs.flock(2, 3), 1);
        Check.due("it is lost yet", downs.flock(2, 4), 1);
    }

    private static void flockTellsItsPond() {
        Check.sentence("what: 0 its sheep, 1 its pond");
        DewPond downs = Made.busy();
        Check.due("sheep", downs.flock(1, 0), 23);
        Check.due("its pond", downs.flock(1, 1), 1);
        downs.pass(1);
        Check.due("its pond, when it has gone to another by itself", downs.flock(1, 1), 0);
        Check.due("the pond of a lost one", downs.flock(2, 1), 3);
    }

    private static void flockTellsItsThirst() {
        Check.sentence("2 its thirst");
        DewPond downs = Made.busy();
        Check.due("none", downs.flock(0, 2), 0);
        Check.due("some", downs.flock(1, 2), 3);
        Check.due("the most", downs.flock(2, 2), 10);
    }

    private static void flockTellsWhetherItIsLost() {
        Check.sentence("4 1 if it is lost, else 0");
        DewPond downs = Made.oneTight(0, 60, 9, 0);
        downs.addFlock(0, 1);
        int[] due = {0, 0, 0, 1, 1};
        for (int lost : due) {
            downs.pass(1);
            Check.due("behind " + downs.count(0) + " days", downs.flock(0, 4), lost);
        }
    }

    private static void flockTellsWhatItHasDrunkInAll() {
        Check.sentence("5 what it has drunk in all");
        DewPond downs = Made.oneTight(0, 60, 9, 45);
        downs.addFlock(0, 9);
        int[] due = {18, 36, 45, 45};
        for (int drunk : due) {
            downs.pass(1);
            Check.due("behind " + downs.count(0) + " days", downs.flock(0, 5), drunk);
        }
        downs.pour(0, 1000);
        downs.foresee(0, 9);
        downs.lasts(0);
        downs.keep(0, 9);
        downs.advise(9);
        Check.due("not what is foreseen", downs.flock(0, 5), 45);
        downs.pass(10);
        Check.due("behind 10 days more", downs.flock(0, 5), 225);
    }

    private static void flockTellsItsOwn() {
        Check.sentence("what: 0 its sheep, 1 its pond");
        DewPond downs = Made.fullHouse();
        for (int flock = 0; flock < 6; flock++) {
            Check.due("sheep of flock " + flock, downs.flock(flock, 0), 10 + flock);
            Check.due("pond of flock " + flock, downs.flock(flock, 1), flock);
        }
    }
}
