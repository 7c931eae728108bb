/** Promises 16 to 21: foresee, lasts, keep, advise, full, digest. */
public final class AheadTest {
    public static void main(String[] args) {
        promise16Foresee();
        promise17Lasts();
        promise18Keep();
        promise18KeepIsLast();
        promise18KeepWithGaps();
        promise19Advise();
        promise19AdviseTies();
        promise20Full();
        promise21Digest();
        Check.end();
    }

    private static void promise16Foresee() {
        int moves = 0;
        int over = 0;
        for (int pond = 0; pond < 10; pond++) {
            // Downs of their own for each pond, because an object is used for 512 calls at most.
            DewPond downs = busyDowns();
            long before = downs.digest();
            int[] foreseen = new int[101];
            for (int days = 1; days <= 100; days++) {
                foreseen[days] = downs.foresee(pond, days);
            }
            Check.due("foresee changes nothing", downs.digest(), before);
            int stood = downs.flock(4, 1);
            for (int days = 1; days <= 100; days++) {
                downs.pass(1);
                Check.due("foresee(" + pond + ", " + days + ")", foreseen[days], downs.pond(pond, 5));
                int stands = downs.flock(4, 1);
                moves += stands != stood ? 1 : 0;
                stood = stands;
            }
            over += downs.pond(pond, 10) > 0 ? 1 : 0;
        }
        Check.due("ponds ran over meanwhile", over >= 5, true);
        Check.due("a flock roamed meanwhile", moves > 3, true);
        DewPond downs = busyDowns();
        Check.illegalArgument("foresee(0, 0)", downs, () -> downs.foresee(0, 0));
        Check.illegalArgument("foresee(0, 101)", downs, () -> downs.foresee(0, 101));
        Check.outOfBounds("foresee(10, 0)", downs, () -> downs.foresee(10, 0));
        Check.outOfBounds("foresee(-1, 1)", downs, () -> downs.foresee(-1, 1));
    }

    private static void promise17Lasts() {
        DewPond downs = new DewPond();
        downs.dig(0, 0, 0, 10, 9);
        downs.puddle(0, 100);
        Check.due("without water now", downs.lasts(0), 0);
        downs.pour(0, 19);
        Check.due("it lasts for ever", downs.lasts(0), -1);
        downs.addFlock(0, 5);
        Check.due("it lasts 2 days", downs.lasts(0), 2);
        long before = downs.digest();
        downs.lasts(0);
        Check.due("lasts changes nothing", downs.digest(), before);
        Check.outOfBounds("lasts(1)", downs, () -> downs.lasts(1));
        Check.outOfBounds("lasts(-1)", downs, () -> downs.lasts(-1));

        DewPond slow = new DewPond();
        slow.dig(0, 0, 0, 60, 9);
        slow.puddle(0, 100);
        slow.addFlock(0, 5);
        slow.pour(0, 2000);
        Check.due("behind 200 days", slow.lasts(0), 200);
        slow.pour(0, 1);
        Check.due("not within 200 days", slow.lasts(0), -1);

        DewPond again = new DewPond();
        again.dig(0, 0, 0, 10, 9);
        again.puddle(0, 100);
        again.pour(0, 10);
        again.setWeather(0, 0, 0, 9);
        again.setWeather(1, 0, 9, 0);
        Check.due("for the first time", again.lasts(0), 1);
    }

    private static void promise18Keep() {
        DewPond downs = new DewPond();
        downs.dig(0, 0, 0, 60, 9);
        downs.puddle(0, 100);
        Check.due("a dry pond keeps none", downs.keep(0, 1), 0);
        downs.pour(0, 1);
        Check.due("1 is too little for 1 sheep", downs.keep(0, 1), 0);
        downs.pour(0, 1);
        Check.due("2 is enough for 1 sheep", downs.keep(0, 1), 1);
        Check.due("but not for 2 days", downs.keep(0, 2), 0);
        downs.pour(0, 157);
        Check.due("159 is enough for 79", downs.keep(0, 1), 79);
        downs.pour(0, 1);
        Check.due("160 is enough for 80", downs.keep(0, 1), 80);
        downs.pour(0, 10000);
        Check.due("80 at most", downs.keep(0, 1), 80);
        long before = downs.digest();
        downs.keep(0, 50);
        Check.due("keep changes nothing", downs.digest(), before);
        Check.illegalArgument("keep(0, 0)", downs, () -> downs.keep(0, 0));
        Check.illegalArgument("keep(0, 51)", downs, () -> downs.keep(0, 51));
        Check.outOfBounds("keep(1, 0)", downs, () -> downs.keep(1, 0));
        Check.outOfBounds("keep(-1, 1)", downs, () -> downs.keep(-1, 1));

        DewPond straw = new DewPond();
        straw.dig(0, 0, 0, 60, 9);
        straw.puddle(0, 100);
        straw.strew(0, true);
        straw.pour(0, 1000);
        Check.due("1000 for 9 days", straw.keep(0, 9), 55);
        Check.due("1000 for 50 days (straw is rotten, but 10 sheep would not tread)", straw.keep(0, 50), 9);
    }

    private static void promise18KeepIsLast() {
        DewPond downs = new DewPond();
        downs.dig(0, 0, 0, 60, 9);
        downs.puddle(0, 100);
        downs.pour(0, 61);
        for (int k = 0; k < 6; k++) {
            downs.addFlock(0, 3);
        }
        Check.due("six others drink first", downs.keep(0, 1), 12);
        Check.due("six others drink first for 2 days", downs.keep(0, 2), 0);
    }

    private static void promise18KeepWithGaps() {
        // On day 2 the roaming flock still has thirst. If 20 sheep or fewer have left
        // it 60 it drinks here again, and there is too little for 11 to 20 of them;
        // if 21 or more have not, it goes away, and there is enough for up to 25.
        for (int sheep = 1; sheep <= 30; sheep++) {
            boolean due = sheep <= 10 || sheep >= 21 && sheep <= 25;
            Check.due(sheep + " sheep beside a roaming flock", doNotThirst(sheep), due);
        }
        Check.due("the greatest number, whatever smaller ones would", besideRoaming().keep(0, 2), 25);
    }

    private static boolean doNotThirst(int sheep) {
        DewPond downs = besideRoaming();
        downs.addFlock(0, sheep);
        downs.pass(1);
        boolean thirsts = downs.flock(1, 2) > 0;
        downs.pass(1);
        return !thirsts && downs.flock(1, 2) == 0;
    }

    private static DewPond besideRoaming() {
        DewPond downs = new DewPond();
        downs.dig(0, 0, 0, 60, 9);
        downs.dig(1, 0, 0, 60, 9);
        downs.puddle(0, 100);
        downs.strew(0, true);
        downs.addFlock(0, 30);
        downs.setRoams(0, true);
        downs.pass(1);
        downs.pour(0, 160);
        downs.pour(1, 5000);
        return downs;
    }

    private static void promise19Advise() {
        DewPond downs = new DewPond();
        Check.due("advise without ponds", downs.advise(1), -1);
        downs.dig(0, 0, 0, 20, 1);
        downs.dig(1, 0, 0, 20, 9);
        downs.dig(2, 0, 0, 20, 9);
        Check.due("all dry: no pond is better", downs.advise(50), -1);
        downs.pour(0, 50);
        downs.pour(1, 450);
        downs.pour(2, 451);
        long before = downs.digest();
        Check.due("the pond with the most water that can be puddled", downs.advise(1), 1);
        Check.due("advise changes nothing", downs.digest(), before);
        downs.pour(1, 1);
        Check.due("the one that can be puddled yet", downs.advise(1), 0);
        downs.pour(0, 1);
        Check.due("none can be puddled", downs.advise(1), -1);
        downs.pour(0, -1);
        downs.puddle(0, 100);
        Check.due("the heap is empty", downs.advise(1), -1);
        downs.bring(5);
        Check.due("the pond is lined already", downs.advise(1), -1);
        Check.illegalArgument("advise(0)", downs, () -> downs.advise(0));
        Check.illegalArgument("advise(51)", downs, () -> downs.advise(51));
        Check.illegalArgument("advise(-1)", downs, () -> downs.advise(-1));

        DewPond little = new DewPond();
        little.dig(0, 0, 0, 60, 9);
        little.dig(1, 0, 0, 60, 9);
        little.puddle(0, 95);
        little.pour(0, 1000);
        little.pour(1, 700);
        // 5 clay are left: pond 0 has 25 more with them, pond 1 has 17 more.
        Check.due("as much as is on the heap", little.advise(1), 0);
        little.bring(100);
        // 105 clay: pond 0 takes 5 of them (25 more), pond 1 takes 100 (350 more).
        Check.due("as much as goes into the lining", little.advise(1), 1);
    }

    private static void promise19AdviseTies() {
        DewPond downs = new DewPond();
        for (int k = 0; k < 3; k++) {
            downs.dig(k, 0, 0, 60, 9);
        }
        downs.pour(0, 400);
        downs.pour(1, 500);
        downs.pour(2, 500);
        Check.due("of several the smallest number", downs.advise(1), 1);
        downs.pour(0, -400);
        downs.pour(1, -500);
        downs.pour(2, -499);
        Check.due("not more than without", downs.advise(1), -1);
        DewPond over = new DewPond();
        over.dig(0, 0, 50, 1, 1);
        over.dig(1, 0, 0, 60, 9);
        over.link(0, 1);
        over.setWeather(0, 0, 9, 0);
        over.setWeather(1, 9, 9, 0);
        Check.due("all water counts, not that of the pond alone", over.advise(2), 1);
    }

    private static void promise20Full() {
        DewPond downs = new DewPond();
        Check.due("full without ponds", downs.full(), 0.0);
        downs.dig(0, 0, 0, 10, 1);
        Check.due("full of dry ponds", downs.full(), 0.0);
        downs.pour(0, 100);
        Check.due("full of full ponds", downs.full(), 1.0);
        downs.dig(1, 0, 0, 20, 1);
        Check.due("a third", downs.full(), 100.0 / 300.0);
        downs.pour(1, 33);
        Check.due("all water by all that they hold", downs.full(), 133.0 / 300.0);
        for (int pond = 2; pond < 10; pond++) {
            downs.dig(pond, 0, 0, 5, 1);
            downs.pour(pond, pond);
        }
        Check.due("full of ten ponds", downs.full(), 177.0 / 700.0);
    }

    private static void promise21Digest() {
        long empty = 587;
        int[] counts = {0, 0, 0, 0, 100, 0, 0, 0};
        for (int count : counts) {
            empty = empty * 31 + count;
        }
        for (int day = 0; day < 10; day++) {
            empty = empty * 31;
        }
        Check.due("digest of a new object", new DewPond().digest(), empty);

        DewPond downs = busyDowns();
        Check.due("digest of busy downs", downs.digest(), digestByHand(downs));
        downs.pass(57);
        Check.due("digest of busy downs later", downs.digest(), digestByHand(downs));
        long before = downs.digest();
        downs.digest();
        Check.due("digest changes nothing", downs.digest(), before);
    }

    /** The digest of busyDowns(), whose weather is the one of weatherOf(). */
    private static long digestByHand(DewPond downs) {
        long sum = 587;
        for (int what = 0; what <= 7; what++) {
            sum = sum * 31 + downs.count(what);
        }
        for (int day = 0; day < 10; day++) {
            int[] weather = weatherOf(day);
            sum = sum * 31 + 100 * weather[0] + 10 * weather[1] + weather[2];
        }
        for (int pond = 0; pond < downs.count(1); pond++) {
            for (int what = 0; what <= 11; what++) {
                sum = sum * 31 + downs.pond(pond, what);
            }
        }
        for (int flock = 0; flock < downs.count(2); flock++) {
            for (int what = 0; what <= 5; what++) {
                sum = sum * 31 + downs.flock(flock, what);
            }
        }
        return sum;
    }

    private static int[] weatherOf(int day) {
        return new int[] {(day * 7) % 10, day < 4 ? 9 : day % 3, (day * 9 + 4) % 10};
    }

    /** As many ponds and flocks as there may be; most ponds run over, and some flocks roam. */
    private static DewPond busyDowns() {
        DewPond downs = new DewPond();
        int[] heights = {80, 250, 149, 30, 180, 150, 300, 60, 120, 0};
        int[] into = {3, 2, 0, 9, 5, 7, 1, 3, 7, -1};
        int[] sheep = {6, 9, 12, 15, 70, 21};
        for (int pond = 0; pond < heights.length; pond++) {
            downs.dig(pond * 7 % 41, pond * 11 % 41, heights[pond], 10 + pond * 3, pond < 8 ? 1 : 2);
        }
        for (int pond = 0; pond < into.length; pond++) {
            downs.link(pond, into[pond]);
        }
        for (int day = 0; day < 10; day++) {
            int[] weather = weatherOf(day);
            downs.setWeather(day, weather[0], weather[1], weather[2]);
        }
        for (int pond = 0; pond < 10; pond++) {
            downs.bring(90);
            downs.puddle(pond, 90);
            downs.pour(pond, 10 * pond);
        }
        downs.strew(4, true);
        for (int flock = 0; flock < 6; flock++) {
            downs.addFlock(4 + flock, sheep[flock]);
            downs.setRoams(flock, flock > 2);
        }
        return downs;
    }
}
