/** Downs that tests start from. */
final class Made {
    private Made() {
    }

    /** One more pond, on the line y = 0, with a lining of 100, so that it does not leak, and with this water. */
    static int tight(DewPond downs, int x, int height, int size, int depth, int water) {
        int number = downs.dig(x, 0, height, size, depth);
        if (downs.count(4) < 100) {
            downs.bring(100);
        }
        downs.puddle(number, 100);
        downs.pour(number, water);
        return number;
    }

    /** Downs with one such pond alone. */
    static DewPond oneTight(int height, int size, int depth, int water) {
        DewPond downs = new DewPond();
        tight(downs, 0, height, size, depth, water);
        return downs;
    }

    /** Downs with one pond that holds 5400, with this lining (at most 100) and this water. */
    static DewPond oneLined(int lining, int water) {
        DewPond downs = new DewPond();
        downs.dig(0, 0, 0, 60, 9);
        if (lining > 0) {
            downs.puddle(0, lining);
        }
        downs.pour(0, water);
        return downs;
    }

    /** Sets the water of a pond. */
    static void fill(DewPond downs, int pond, int water) {
        downs.pour(pond, -10000);
        downs.pour(pond, water);
    }

    /** As many ponds and flocks as there may be, in a row, all dry and without links; the heap is full. */
    static DewPond fullHouse() {
        DewPond downs = new DewPond();
        for (int pond = 0; pond < 10; pond++) {
            downs.dig(pond, 0, 10 * pond, 10, 2);
        }
        for (int flock = 0; flock < 6; flock++) {
            downs.addFlock(flock, 10 + flock);
        }
        for (int k = 0; k < 4; k++) {
            downs.bring(100);
        }
        return downs;
    }

    /**
     * On day 12: four ponds, linked 0 - 1 - 2, of which 0 has run over and is too full to puddle, 2 is strewn
     * and 3 is dry; flock 0 stays without thirst at 0, flock 1 roams with thirst at 1, flock 2 is lost at 3;
     * the heap has 50.
     */
    static DewPond busy() {
        DewPond downs = new DewPond();
        downs.dig(3, 4, 200, 20, 3);
        downs.dig(8, 4, 150, 10, 2);
        downs.dig(8, 9, 90, 30, 2);
        downs.dig(30, 30, 90, 1, 1);
        downs.link(0, 1);
        downs.link(1, 2);
        downs.bring(80);
        downs.puddle(0, 100);
        downs.puddle(2, 30);
        for (int day = 0; day < 10; day++) {
            downs.setWeather(day, day % 4, day == 5 ? 9 : 0, day % 3);
        }
        downs.addFlock(0, 11);
        downs.addFlock(1, 23);
        downs.addFlock(3, 5);
        for (int k = 0; k < 4; k++) {
            downs.pour(0, 600);
            downs.pour(1, 200);
            downs.pass(3);
        }
        downs.setRoams(1, true);
        downs.strew(2, true);
        fill(downs, 3, 0);
        return downs;
    }
}
