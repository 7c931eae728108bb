/** Promises 8 to 13: setWeather, bring, addFlock, drive, setRoams, flock. */
public final class FlocksTest {
    public static void main(String[] args) {
        promise8SetWeather();
        promise9Bring();
        promise10AddFlock();
        promise11Drive();
        promise12SetRoams();
        promise13Flock();
        Check.end();
    }

    private static void promise8SetWeather() {
        DewPond downs = new DewPond();
        Check.due("setWeather first", downs.setWeather(3, 9, 8, 7), 0);
        Check.due("setWeather again", downs.setWeather(3, 0, 0, 9), 987);
        Check.due("setWeather once more", downs.setWeather(3, 0, 9, 0), 9);
        Check.due("setWeather at last", downs.setWeather(3, 0, 0, 0), 90);
        Check.due("setWeather of day 9", downs.setWeather(9, 9, 9, 9), 0);
        Check.due("setWeather of day 0", downs.setWeather(0, 1, 2, 3), 0);
        Check.outOfBounds("day 10", downs, () -> downs.setWeather(10, 1, 1, 1));
        Check.outOfBounds("day -1", downs, () -> downs.setWeather(-1, 1, 1, 1));
        Check.outOfBounds("day 10 and mist 10", downs, () -> downs.setWeather(10, 10, 1, 1));
        Check.illegalArgument("mist 10", downs, () -> downs.setWeather(0, 10, 0, 0));
        Check.illegalArgument("mist -1", downs, () -> downs.setWeather(0, -1, 0, 0));
        Check.illegalArgument("rain 10", downs, () -> downs.setWeather(0, 0, 10, 0));
        Check.illegalArgument("rain -1", downs, () -> downs.setWeather(0, 0, -1, 0));
        Check.illegalArgument("sun 10", downs, () -> downs.setWeather(9, 0, 0, 10));
        Check.illegalArgument("sun -1", downs, () -> downs.setWeather(9, 0, 0, -1));
    }

    private static void promise9Bring() {
        DewPond downs = new DewPond();
        Check.due("bring 1", downs.bring(1), 101);
        Check.due("bring 100", downs.bring(100), 201);
        downs.bring(100);
        downs.bring(100);
        Check.illegalState("bring one too much", downs, () -> downs.bring(100));
        Check.due("bring up to 500", downs.bring(99), 500);
        Check.illegalState("bring to a full heap", downs, () -> downs.bring(1));
        Check.illegalArgument("bring 101 to a full heap", downs, () -> downs.bring(101));
        Check.illegalArgument("bring 0", downs, () -> downs.bring(0));
        Check.illegalArgument("bring -1", downs, () -> downs.bring(-1));
        Check.illegalArgument("bring the greatest int", downs, () -> downs.bring(Integer.MAX_VALUE));
        Check.due("count(4)", downs.count(4), 500);
    }

    private static void promise10AddFlock() {
        DewPond downs = twoPonds();
        Check.due("addFlock least", downs.addFlock(1, 1), 0);
        Check.due("addFlock most", downs.addFlock(0, 80), 1);
        int[] due = {80, 0, 0, 0, 0, 0};
        for (int what = 0; what < due.length; what++) {
            Check.due("flock(1, " + what + ")", downs.flock(1, what), due[what]);
        }
        Check.outOfBounds("addFlock at no pond", downs, () -> downs.addFlock(2, 1));
        Check.outOfBounds("addFlock at no pond, no sheep", downs, () -> downs.addFlock(-1, 0));
        Check.illegalArgument("addFlock of 0", downs, () -> downs.addFlock(0, 0));
        Check.illegalArgument("addFlock of 81", downs, () -> downs.addFlock(0, 81));
        for (int k = 2; k < 6; k++) {
            Check.due("addFlock", downs.addFlock(0, k), k);
        }
        Check.illegalState("addFlock a 7th", downs, () -> downs.addFlock(0, 1));
        Check.illegalArgument("addFlock a wrong 7th", downs, () -> downs.addFlock(0, 81));
        Check.outOfBounds("addFlock a 7th at no pond", downs, () -> downs.addFlock(2, 1));
        Check.due("count(2)", downs.count(2), 6);
        downs.keep(0, 5);
        Check.due("what was tried for keep is not there: count(2)", downs.count(2), 6);
    }

    private static void promise11Drive() {
        DewPond downs = twoPonds();
        downs.addFlock(0, 10);
        Check.due("drive", downs.drive(0, 1), 11);
        Check.due("flock(0, 1)", downs.flock(0, 1), 1);
        Check.due("pond(0, 9)", downs.pond(0, 9), 0);
        Check.due("pond(1, 9)", downs.pond(1, 9), 1);
        Check.due("drive nowhere", downs.drive(0, 1), 0);
        Check.due("drive back", downs.drive(0, 0), 11);
        Check.outOfBounds("drive no flock", downs, () -> downs.drive(1, 0));
        Check.outOfBounds("drive -1", downs, () -> downs.drive(-1, 0));
        Check.outOfBounds("drive to no pond", downs, () -> downs.drive(0, 2));
        Check.outOfBounds("drive to -1", downs, () -> downs.drive(0, -1));
        downs.pass(3);
        Check.due("thirst 9: drive", downs.drive(0, 1), 11);
        downs.pass(1);
        Check.illegalState("drive a lost one", downs, () -> downs.drive(0, 0));
        Check.outOfBounds("drive a lost one to no pond", downs, () -> downs.drive(0, 2));
        Check.due("a lost one is where it was", downs.flock(0, 1), 1);
    }

    private static void promise12SetRoams() {
        DewPond downs = twoPonds();
        downs.addFlock(0, 10);
        downs.addFlock(0, 10);
        Check.due("setRoams", downs.setRoams(1, true), false);
        Check.due("flock(1, 3)", downs.flock(1, 3), 1);
        Check.due("flock(0, 3)", downs.flock(0, 3), 0);
        Check.due("setRoams again", downs.setRoams(1, true), true);
        Check.due("stays again", downs.setRoams(1, false), true);
        Check.due("flock(1, 3) behind it", downs.flock(1, 3), 0);
        Check.outOfBounds("setRoams of no flock", downs, () -> downs.setRoams(2, true));
        Check.outOfBounds("setRoams of -1", downs, () -> downs.setRoams(-1, true));
        downs.pass(4);
        Check.due("setRoams of a lost one", downs.setRoams(1, true), false);
        Check.due("flock(1, 3) of a lost one", downs.flock(1, 3), 1);
    }

    private static void promise13Flock() {
        DewPond downs = twoPonds();
        downs.addFlock(1, 7);
        downs.setRoams(0, true);
        downs.pour(1, 20);
        downs.puddle(1, 100);
        downs.pass(1);
        int[] day1 = {7, 1, 0, 1, 0, 14};
        for (int what = 0; what < day1.length; what++) {
            Check.due("day 1: flock(0, " + what + ")", downs.flock(0, what), day1[what]);
        }
        downs.pass(4);
        int[] day5 = {7, 1, 10, 1, 1, 20};
        for (int what = 0; what < day5.length; what++) {
            Check.due("day 5: flock(0, " + what + ")", downs.flock(0, what), day5[what]);
        }
        Check.outOfBounds("flock(0, 6)", downs, () -> downs.flock(0, 6));
        Check.outOfBounds("flock(0, -1)", downs, () -> downs.flock(0, -1));
        Check.outOfBounds("flock(1, 0)", downs, () -> downs.flock(1, 0));
        Check.outOfBounds("flock(-1, 0)", downs, () -> downs.flock(-1, 0));
    }

    /** Two ponds that hold 200, 11 from one another. */
    private static DewPond twoPonds() {
        DewPond downs = new DewPond();
        downs.dig(10, 3, 0, 10, 2);
        downs.dig(4, 8, 0, 10, 2);
        return downs;
    }
}
