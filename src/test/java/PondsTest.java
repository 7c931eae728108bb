/** Promises 1 to 7: a new object, dig, link, puddle, strew, pour, pond. */
public final class PondsTest {
    public static void main(String[] args) {
        promise1NewObject();
        promise2Dig();
        promise2DigRefuses();
        promise3Link();
        promise3LinkRefuses();
        promise4Puddle();
        promise4PuddleRefuses();
        promise5Strew();
        promise6Pour();
        promise7Pond();
        promise7Sources();
        Check.end();
    }

    private static void promise1NewObject() {
        DewPond downs = new DewPond();
        int[] due = {0, 0, 0, 0, 100, 0, 0, 0};
        for (int what = 0; what < due.length; what++) {
            Check.due("new: count(" + what + ")", downs.count(what), due[what]);
        }
        Check.outOfBounds("new: pond(0, 0)", downs, () -> downs.pond(0, 0));
        Check.outOfBounds("new: flock(0, 0)", downs, () -> downs.flock(0, 0));
        for (int day = 0; day < 10; day++) {
            Check.due("new: setWeather", downs.setWeather(day, 0, 0, 0), 0);
        }
        downs.dig(1, 1, 1, 1, 1);
        DewPond other = new DewPond();
        Check.due("another new object has no ponds", other.count(1), 0);
    }

    private static void promise2Dig() {
        DewPond downs = new DewPond();
        Check.due("dig least", downs.dig(0, 0, 0, 1, 1), 0);
        Check.due("dig most", downs.dig(40, 40, 300, 60, 9), 1);
        Check.due("dig same x", downs.dig(40, 0, 7, 8, 3), 2);
        Check.due("dig same y", downs.dig(3, 0, 7, 8, 3), 3);
        Check.due("count(1)", downs.count(1), 4);
        int[] due = {40, 0, 7, 8, 240, 0, 0, 0, -1, 0, 0, 0};
        for (int what = 0; what < due.length; what++) {
            Check.due("dug: pond(2, " + what + ")", downs.pond(2, what), due[what]);
        }
        Check.due("the most holds", downs.pond(1, 4), 5400);
        Check.due("the least holds", downs.pond(0, 4), 10);
    }

    private static void promise2DigRefuses() {
        DewPond downs = new DewPond();
        downs.dig(5, 5, 5, 5, 5);
        int[][] wrong = {
            {-1, 0, 0, 1, 1}, {41, 0, 0, 1, 1}, {0, -1, 0, 1, 1}, {0, 41, 0, 1, 1},
            {0, 0, -1, 1, 1}, {0, 0, 301, 1, 1}, {0, 0, 0, 0, 1}, {0, 0, 0, 61, 1},
            {0, 0, 0, 1, 0}, {0, 0, 0, 1, 10}, {5, 5, 5, 5, 10}, {5, 5, -1, 5, 5},
            {Integer.MIN_VALUE, 0, 0, 1, 1}, {0, Integer.MAX_VALUE, 0, 1, 1},
        };
        for (int[] w : wrong) {
            Check.illegalArgument("dig " + java.util.Arrays.toString(w), downs,
                    () -> downs.dig(w[0], w[1], w[2], w[3], w[4]));
        }
        Check.illegalState("dig at a taken place", downs, () -> downs.dig(5, 5, 9, 9, 9));
        for (int k = 1; k < 10; k++) {
            Check.due("dig", downs.dig(k, 0, 10 * k, 1, 1), k);
        }
        Check.illegalState("dig an 11th", downs, () -> downs.dig(30, 30, 1, 1, 1));
        Check.illegalArgument("dig a wrong 11th", downs, () -> downs.dig(30, 30, 1, 1, 0));
    }

    private static void promise3Link() {
        DewPond downs = three();
        Check.due("link first", downs.link(0, 1), -1);
        Check.due("link again", downs.link(0, 2), 1);
        Check.due("pond(0, 8)", downs.pond(0, 8), 2);
        Check.due("unlink", downs.link(0, -1), 2);
        Check.due("pond(0, 8) of none", downs.pond(0, 8), -1);
        Check.due("unlink none", downs.link(0, -1), -1);
        Check.due("unlink the lowest", downs.link(2, -1), -1);
        Check.due("link one lower by 1", downs.link(1, 2), -1);
        Check.due("pond(1, 8)", downs.pond(1, 8), 2);
    }

    private static void promise3LinkRefuses() {
        DewPond downs = three();
        downs.dig(9, 9, 100, 1, 1);
        downs.link(0, 1);
        Check.illegalArgument("link to itself", downs, () -> downs.link(0, 0));
        Check.illegalArgument("link to a higher one", downs, () -> downs.link(1, 0));
        Check.illegalArgument("link to one as high", downs, () -> downs.link(1, 3));
        Check.outOfBounds("link of no pond", downs, () -> downs.link(4, 0));
        Check.outOfBounds("link of no pond to none", downs, () -> downs.link(4, -1));
        Check.outOfBounds("link of -1", downs, () -> downs.link(-1, 0));
        Check.outOfBounds("link to no pond", downs, () -> downs.link(0, 4));
        Check.outOfBounds("link to -2", downs, () -> downs.link(0, -2));
        Check.outOfBounds("link to the least int", downs, () -> downs.link(0, Integer.MIN_VALUE));
        Check.outOfBounds("link to the greatest int", downs, () -> downs.link(0, Integer.MAX_VALUE));
    }

    private static void promise4Puddle() {
        DewPond downs = three();
        Check.due("puddle", downs.puddle(0, 30), 30);
        Check.due("pond(0, 6)", downs.pond(0, 6), 30);
        Check.due("count(4)", downs.count(4), 70);
        Check.due("puddle more than the heap has", downs.puddle(0, 100), 70);
        Check.due("heap is empty", downs.count(4), 0);
        Check.due("puddle from an empty heap", downs.puddle(1, 1), 0);
        downs.bring(50);
        Check.due("puddle a lined one", downs.puddle(0, 1), 0);
        Check.due("nothing used", downs.count(4), 50);
        downs.puddle(1, 1);
        downs.bring(100);
        Check.due("puddle up to 100", downs.puddle(1, 100), 99);
        Check.due("pond(1, 6)", downs.pond(1, 6), 100);
        Check.due("heap behind it", downs.count(4), 50);
    }

    private static void promise4PuddleRefuses() {
        DewPond downs = new DewPond();
        downs.dig(0, 0, 0, 3, 1);
        downs.pour(0, 8);
        Check.illegalState("puddle above a quarter (cut)", downs, () -> downs.puddle(0, 1));
        Check.illegalArgument("puddle 0", downs, () -> downs.puddle(0, 0));
        Check.illegalArgument("puddle 101", downs, () -> downs.puddle(0, 101));
        Check.illegalArgument("puddle -1", downs, () -> downs.puddle(0, -1));
        Check.outOfBounds("puddle no pond", downs, () -> downs.puddle(1, 0));
        Check.outOfBounds("puddle -1", downs, () -> downs.puddle(-1, 1));
        downs.pour(0, -1);
        Check.due("puddle at a quarter (cut)", downs.puddle(0, 1), 1);
    }

    private static void promise5Strew() {
        DewPond downs = three();
        Check.due("strew", downs.strew(1, true), false);
        Check.due("pond(1, 7)", downs.pond(1, 7), 1);
        Check.due("pond(0, 7)", downs.pond(0, 7), 0);
        Check.due("strew again", downs.strew(1, true), true);
        Check.due("take off", downs.strew(1, false), true);
        Check.due("pond(1, 7) behind it", downs.pond(1, 7), 0);
        Check.due("take off again", downs.strew(1, false), false);
        Check.outOfBounds("strew no pond", downs, () -> downs.strew(3, true));
        Check.outOfBounds("strew -1", downs, () -> downs.strew(-1, false));
    }

    private static void promise6Pour() {
        DewPond downs = new DewPond();
        downs.dig(0, 0, 10, 2, 2);
        downs.dig(1, 0, 0, 60, 9);
        downs.link(0, 1);
        Check.due("pour", downs.pour(0, 15), 15);
        Check.due("scoop", downs.pour(0, -5), 10);
        Check.due("pour 0", downs.pour(0, 0), 10);
        Check.due("pour to the brim", downs.pour(0, 30), 40);
        Check.due("pour over the brim", downs.pour(0, 1), 40);
        Check.due("what is poured over does not count as run over", downs.pond(0, 10), 0);
        Check.due("what is poured over is gone", downs.pond(1, 5), 0);
        Check.due("pour most", downs.pour(1, 10000), 5400);
        Check.due("scoop most", downs.pour(1, -10000), 0);
        Check.due("scoop more than there is", downs.pour(0, -41), 0);
        Check.illegalArgument("pour 10001", downs, () -> downs.pour(0, 10001));
        Check.illegalArgument("pour -10001", downs, () -> downs.pour(0, -10001));
        Check.illegalArgument("pour the least int", downs, () -> downs.pour(0, Integer.MIN_VALUE));
        Check.outOfBounds("pour no pond", downs, () -> downs.pour(2, 10001));
        Check.outOfBounds("pour -1", downs, () -> downs.pour(-1, 1));
    }

    private static void promise7Pond() {
        DewPond downs = three();
        downs.link(0, 2);
        downs.strew(0, true);
        downs.puddle(0, 33);
        downs.pour(0, 60);
        downs.addFlock(0, 5);
        downs.addFlock(0, 6);
        downs.addFlock(1, 6);
        int[] due = {1, 2, 101, 10, 200, 60, 33, 1, 2, 2, 0, 0};
        for (int what = 0; what < due.length; what++) {
            Check.due("pond(0, " + what + ")", downs.pond(0, what), due[what]);
        }
        Check.outOfBounds("pond(0, 12)", downs, () -> downs.pond(0, 12));
        Check.outOfBounds("pond(0, -1)", downs, () -> downs.pond(0, -1));
        Check.outOfBounds("pond(3, 0)", downs, () -> downs.pond(3, 0));
        Check.outOfBounds("pond(-1, 0)", downs, () -> downs.pond(-1, 0));
        downs.pour(0, -60);
        downs.pour(1, 200);
        downs.pass(4);
        Check.due("lost flocks are not counted there", downs.pond(0, 9), 0);
        Check.due("others are", downs.pond(1, 9), 1);
    }

    private static void promise7Sources() {
        DewPond downs = new DewPond();
        for (int k = 0; k < 10; k++) {
            downs.dig(k, 0, 100 - 10 * k, 1, 1);
        }
        Check.due("no links: pond(9, 11)", downs.pond(9, 11), 0);
        for (int k = 0; k < 9; k++) {
            downs.link(k, k + 1);
        }
        Check.due("a chain: pond(9, 11)", downs.pond(9, 11), 511);
        Check.due("a chain: pond(4, 11)", downs.pond(4, 11), 15);
        Check.due("a chain: pond(0, 11)", downs.pond(0, 11), 0);
        downs.link(4, 9);
        Check.due("a branch: pond(9, 11)", downs.pond(9, 11), 511);
        Check.due("a branch: pond(8, 11)", downs.pond(8, 11), 0b11100000);
        downs.link(4, -1);
        Check.due("a gap: pond(9, 11)", downs.pond(9, 11), 0b111100000);
    }

    /** Ponds 0, 1, 2, each lower by 1 than the one before; pond 0 at 1, 2 holds 200. */
    private static DewPond three() {
        DewPond downs = new DewPond();
        downs.dig(1, 2, 101, 10, 2);
        downs.dig(3, 4, 100, 10, 2);
        downs.dig(5, 6, 99, 10, 2);
        return downs;
    }
}
