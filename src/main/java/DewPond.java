/** Dew ponds on the downs. */
public final class DewPond {
    private static final int MOST_PONDS = 10;
    private static final int MOST_FLOCKS = 6;
    private static final int MOST_SHEEP = 80;
    private static final int MOST_CLAY = 500;
    private static final int MOST_LINING = 100;
    private static final int MOST_THIRST = 10;
    private static final int MOST_DAYS_TO_LAST = 200;
    private static final int TABLE_DAYS = 10;
    private static final int NONE = -1;

    private static final int COUNT_FACTS = 8;
    private static final int POND_FACTS = 12;
    private static final int FLOCK_FACTS = 6;

    private final Downs downs;

    // What is told of days to come is tried out here: made once, because a call
    // may need many trials, and because nothing of the downs may be changed.
    private final Downs ahead;

    public DewPond() {
        downs = new Downs(MOST_FLOCKS);
        // keep() tries one flock more than there may be.
        ahead = new Downs(MOST_FLOCKS + 1);
    }

    // ---- ponds

    public int dig(int x, int y, int height, int size, int depth)
            throws IllegalArgumentException, IllegalStateException {
        if (!isWithin(x, 0, 40) || !isWithin(y, 0, 40)) {
            throw new IllegalArgumentException("x or y is not 0 to 40");
        }
        if (!isWithin(height, 0, 300) || !isWithin(size, 1, 60) || !isWithin(depth, 1, 9)) {
            throw new IllegalArgumentException("height is not 0 to 300, size not 1 to 60, or depth not 1 to 9");
        }
        return downs.makePond(x, y, height, size, depth);
    }

    public int link(int pond, int other) throws IndexOutOfBoundsException, IllegalArgumentException {
        Pond upper = downs.pondAt(pond);
        if (other != NONE && downs.pondAt(other).height >= upper.height) {
            throw new IllegalArgumentException("the other pond does not lie lower");
        }
        int before = upper.runsInto;
        upper.runsInto = other;
        return before;
    }

    public int puddle(int pond, int clay)
            throws IndexOutOfBoundsException, IllegalArgumentException, IllegalStateException {
        Pond puddled = downs.pondAt(pond);
        if (!isWithin(clay, 1, 100)) {
            throw new IllegalArgumentException("clay is not 1 to 100");
        }
        if (!puddled.isLowEnoughToPuddle()) {
            throw new IllegalStateException("there is too much water in the pond");
        }
        int used = puddled.lineWith(Math.min(clay, downs.clay));
        downs.clay -= used;
        return used;
    }

    public boolean strew(int pond, boolean isStrewn) throws IndexOutOfBoundsException {
        Pond strewn = downs.pondAt(pond);
        boolean before = strewn.hasStraw;
        strewn.hasStraw = isStrewn;
        return before;
    }

    public int pour(int pond, int by) throws IndexOutOfBoundsException, IllegalArgumentException {
        Pond poured = downs.pondAt(pond);
        if (!isWithin(by, -10000, 10000)) {
            throw new IllegalArgumentException("by is not -10000 to 10000");
        }
        poured.water = Math.max(0, Math.min(poured.water + by, poured.holds()));
        return poured.water;
    }

    public int pond(int pond, int what) throws IndexOutOfBoundsException {
        Pond asked = downs.pondAt(pond);
        switch (what) {
            case 0: return asked.x;
            case 1: return asked.y;
            case 2: return asked.height;
            case 3: return asked.size;
            case 4: return asked.holds();
            case 5: return asked.water;
            case 6: return asked.lining;
            case 7: return asked.hasStraw ? 1 : 0;
            case 8: return asked.runsInto;
            case 9: return downs.flocksAt(pond);
            case 10: return asked.ranOver;
            case 11: return downs.sourcesOf(pond);
            default: throw new IndexOutOfBoundsException("what is not 0 to 11");
        }
    }

    // ---- weather, clay, flocks

    public int setWeather(int day, int mist, int rain, int sun)
            throws IndexOutOfBoundsException, IllegalArgumentException {
        Weather weather = downs.weatherAt(day);
        if (!isWithin(mist, 0, 9) || !isWithin(rain, 0, 9) || !isWithin(sun, 0, 9)) {
            throw new IllegalArgumentException("mist, rain or sun is not 0 to 9");
        }
        int before = weather.asNumber();
        weather.mist = mist;
        weather.rain = rain;
        weather.sun = sun;
        return before;
    }

    public int bring(int clay) throws IllegalArgumentException, IllegalStateException {
        if (!isWithin(clay, 1, 100)) {
            throw new IllegalArgumentException("clay is not 1 to 100");
        }
        if (downs.clay + clay > MOST_CLAY) {
            throw new IllegalStateException("there would be more than 500 on the heap");
        }
        downs.clay += clay;
        return downs.clay;
    }

    public int addFlock(int pond, int sheep)
            throws IndexOutOfBoundsException, IllegalArgumentException, IllegalStateException {
        downs.pondAt(pond);
        if (!isWithin(sheep, 1, MOST_SHEEP)) {
            throw new IllegalArgumentException("sheep is not 1 to 80");
        }
        return downs.makeFlock(pond, sheep);
    }

    public int drive(int flock, int pond) throws IndexOutOfBoundsException, IllegalStateException {
        Flock driven = downs.flockAt(flock);
        Pond goal = downs.pondAt(pond);
        if (driven.isLost()) {
            throw new IllegalStateException("the flock is lost");
        }
        int way = downs.pondAt(driven.pond).distanceTo(goal);
        driven.pond = pond;
        return way;
    }

    public boolean setRoams(int flock, boolean roams) throws IndexOutOfBoundsException {
        Flock told = downs.flockAt(flock);
        boolean before = told.roams;
        told.roams = roams;
        return before;
    }

    public int flock(int flock, int what) throws IndexOutOfBoundsException {
        Flock asked = downs.flockAt(flock);
        switch (what) {
            case 0: return asked.sheep;
            case 1: return asked.pond;
            case 2: return asked.thirst;
            case 3: return asked.roams ? 1 : 0;
            case 4: return asked.isLost() ? 1 : 0;
            case 5: return asked.drunk;
            default: throw new IndexOutOfBoundsException("what is not 0 to 5");
        }
    }

    // ---- days

    public int pass(int days) throws IllegalArgumentException {
        if (!isWithin(days, 1, 100)) {
            throw new IllegalArgumentException("days is not 1 to 100");
        }
        return downs.liveDays(days);
    }

    public int count(int what) throws IndexOutOfBoundsException {
        switch (what) {
            case 0: return downs.day;
            case 1: return downs.pondCount;
            case 2: return downs.flockCount;
            case 3: return downs.lostFlocks();
            case 4: return downs.clay;
            case 5: return downs.allWater();
            case 6: return downs.emptyPonds();
            case 7: return downs.livingSheep();
            default: throw new IndexOutOfBoundsException("what is not 0 to 7");
        }
    }

    // ---- looking ahead

    public int foresee(int pond, int days) throws IndexOutOfBoundsException, IllegalArgumentException {
        downs.pondAt(pond);
        if (!isWithin(days, 1, 100)) {
            throw new IllegalArgumentException("days is not 1 to 100");
        }
        ahead.becomeLike(downs);
        ahead.liveDays(days);
        return ahead.pondAt(pond).water;
    }

    public int lasts(int pond) throws IndexOutOfBoundsException {
        if (downs.pondAt(pond).water == 0) {
            return 0;
        }
        ahead.becomeLike(downs);
        Pond watched = ahead.pondAt(pond);
        for (int days = 1; days <= MOST_DAYS_TO_LAST; days++) {
            ahead.liveDay();
            if (watched.water == 0) {
                return days;
            }
        }
        return NONE;
    }

    public int keep(int pond, int days) throws IndexOutOfBoundsException, IllegalArgumentException {
        downs.pondAt(pond);
        if (!isWithin(days, 1, 50)) {
            throw new IllegalArgumentException("days is not 1 to 50");
        }
        // Every number is tried: a smaller flock may thirst where a larger one does
        // not, because treading changes the leaks and drinking changes who roams where.
        for (int sheep = MOST_SHEEP; sheep >= 1; sheep--) {
            if (canKeep(pond, sheep, days)) {
                return sheep;
            }
        }
        return 0;
    }

    public int advise(int days) throws IllegalArgumentException {
        if (!isWithin(days, 1, 50)) {
            throw new IllegalArgumentException("days is not 1 to 50");
        }
        int best = NONE;
        int most = waterBehind(days, NONE);
        for (int pond = 0; pond < downs.pondCount; pond++) {
            if (downs.pondAt(pond).isLowEnoughToPuddle()) {
                int water = waterBehind(days, pond);
                if (water > most) {
                    most = water;
                    best = pond;
                }
            }
        }
        return best;
    }

    public double full() {
        int holds = downs.allHold();
        return holds == 0 ? 0.0 : (double) downs.allWater() / (double) holds;
    }

    public long digest() {
        long sum = 587;
        for (int what = 0; what < COUNT_FACTS; what++) {
            sum = sum * 31 + count(what);
        }
        for (int day = 0; day < TABLE_DAYS; day++) {
            sum = sum * 31 + downs.weatherAt(day).asNumber();
        }
        for (int number = 0; number < downs.pondCount; number++) {
            for (int what = 0; what < POND_FACTS; what++) {
                sum = sum * 31 + pond(number, what);
            }
        }
        for (int number = 0; number < downs.flockCount; number++) {
            for (int what = 0; what < FLOCK_FACTS; what++) {
                sum = sum * 31 + flock(number, what);
            }
        }
        return sum;
    }

    private boolean canKeep(int pond, int sheep, int days) {
        ahead.becomeLike(downs);
        Flock tried = ahead.flockAt(ahead.makeFlock(pond, sheep));
        for (int day = 0; day < days; day++) {
            ahead.liveDay();
            if (tried.thirst > 0) {
                return false;
            }
        }
        return true;
    }

    /** All water behind so many days, if all clay that goes into it is used for this pond now. */
    private int waterBehind(int days, int puddled) {
        ahead.becomeLike(downs);
        if (puddled != NONE) {
            ahead.pondAt(puddled).lineWith(ahead.clay);
        }
        ahead.liveDays(days);
        return ahead.allWater();
    }

    private static boolean isWithin(int number, int least, int most) {
        return number >= least && number <= most;
    }

    private static final class Weather {
        int mist;
        int rain;
        int sun;

        void becomeLike(Weather other) {
            mist = other.mist;
            rain = other.rain;
            sun = other.sun;
        }

        int asNumber() {
            return 100 * mist + 10 * rain + sun;
        }
    }

    private static final class Pond {
        int x;
        int y;
        int height;
        int size;
        int depth;
        int water;
        int lining;
        boolean hasStraw;
        int runsInto = NONE;
        int ranOver;

        void becomeLike(Pond other) {
            x = other.x;
            y = other.y;
            height = other.height;
            size = other.size;
            depth = other.depth;
            water = other.water;
            lining = other.lining;
            hasStraw = other.hasStraw;
            runsInto = other.runsInto;
            ranOver = other.ranOver;
        }

        int holds() {
            return size * depth * 10;
        }

        int distanceTo(Pond other) {
            return Math.abs(x - other.x) + Math.abs(y - other.y);
        }

        boolean isLowEnoughToPuddle() {
            return water <= holds() / 4;
        }

        int lineWith(int clay) {
            int used = Math.min(clay, MOST_LINING - lining);
            lining += used;
            return used;
        }

        void takeMist(int mist) {
            int gain = mist * size / 4;
            water += height >= 150 ? 2 * gain : gain;
        }

        void takeRain(int rain) {
            water += rain * size / 2;
        }

        int giveDrink(int need) {
            int given = Math.min(need, water);
            water -= given;
            return given;
        }

        void treadBy(int sheep) {
            if (!hasStraw) {
                lining = Math.max(0, lining - sheep / 10);
            }
        }

        void dryBy(int sun) {
            int loss = sun * size / 5;
            water -= Math.min(water, hasStraw ? loss / 2 : loss);
        }

        void leak() {
            water -= water * (MOST_LINING - lining) / 200;
        }

        /** Takes off what is more than the pond holds, and tells how much it was. */
        int spill() {
            int excess = Math.max(0, water - holds());
            water -= excess;
            ranOver += excess;
            return excess;
        }
    }

    private static final class Flock {
        int sheep;
        int pond;
        int thirst;
        boolean roams;
        int drunk;

        void becomeLike(Flock other) {
            sheep = other.sheep;
            pond = other.pond;
            thirst = other.thirst;
            roams = other.roams;
            drunk = other.drunk;
        }

        void startAt(int place, int heads) {
            sheep = heads;
            pond = place;
            thirst = 0;
            roams = false;
            drunk = 0;
        }

        // Thirst changes once a day only, so that 10 is always that of a day's end.
        boolean isLost() {
            return thirst >= MOST_THIRST;
        }

        int need() {
            return 2 * sheep;
        }

        void drink(int water) {
            drunk += water;
            if (water >= need()) {
                thirst = Math.max(0, thirst - 2);
            } else {
                thirst = Math.min(MOST_THIRST, thirst + 3);
            }
        }
    }

    /** All that a day changes, and what it goes by. */
    private static final class Downs {
        final Weather[] weather;
        final Pond[] ponds;
        // The ponds' numbers, the higher ones first, of the same height the smaller number.
        final int[] byHeight;
        final Flock[] flocks;
        int pondCount;
        int flockCount;
        int day;
        int clay = 100;

        Downs(int roomForFlocks) {
            weather = new Weather[TABLE_DAYS];
            for (int dayOfTable = 0; dayOfTable < weather.length; dayOfTable++) {
                weather[dayOfTable] = new Weather();
            }
            ponds = new Pond[MOST_PONDS];
            byHeight = new int[MOST_PONDS];
            for (int number = 0; number < ponds.length; number++) {
                ponds[number] = new Pond();
            }
            flocks = new Flock[Math.max(0, roomForFlocks)];
            for (int number = 0; number < flocks.length; number++) {
                flocks[number] = new Flock();
            }
        }

        /** Takes over all of other downs, which have no more flocks than there is room for here. */
        void becomeLike(Downs other) {
            day = other.day;
            clay = other.clay;
            for (int dayOfTable = 0; dayOfTable < TABLE_DAYS; dayOfTable++) {
                weather[dayOfTable].becomeLike(other.weather[dayOfTable]);
            }
            pondCount = other.pondCount;
            for (int number = 0; number < pondCount; number++) {
                ponds[number].becomeLike(other.ponds[number]);
                byHeight[number] = other.byHeight[number];
            }
            flockCount = Math.min(other.flockCount, flocks.length);
            for (int number = 0; number < flockCount; number++) {
                flocks[number].becomeLike(other.flocks[number]);
            }
        }

        Weather weatherAt(int dayOfTable) {
            if (dayOfTable < 0 || dayOfTable >= weather.length) {
                throw new IndexOutOfBoundsException("no such day in the table");
            }
            return weather[dayOfTable];
        }

        Pond pondAt(int number) {
            if (number < 0 || number >= pondCount) {
                throw new IndexOutOfBoundsException("no such pond");
            }
            return ponds[number];
        }

        Flock flockAt(int number) {
            if (number < 0 || number >= flockCount) {
                throw new IndexOutOfBoundsException("no such flock");
            }
            return flocks[number];
        }

        int makePond(int x, int y, int height, int size, int depth) {
            if (pondCount >= ponds.length) {
                throw new IllegalStateException("there are as many ponds as there may be");
            }
            if (isTaken(x, y)) {
                throw new IllegalStateException("there is a pond at this place");
            }
            int number = pondCount;
            Pond dug = ponds[number];
            dug.x = x;
            dug.y = y;
            dug.height = height;
            dug.size = size;
            dug.depth = depth;
            int rank = number;
            while (rank > 0 && pondAt(byHeight[rank - 1]).height < height) {
                byHeight[rank] = byHeight[rank - 1];
                rank--;
            }
            byHeight[rank] = number;
            pondCount++;
            return number;
        }

        int makeFlock(int pond, int sheep) {
            if (flockCount >= flocks.length) {
                throw new IllegalStateException("there are as many flocks as there may be");
            }
            int number = flockCount;
            flocks[number].startAt(pond, sheep);
            flockCount++;
            return number;
        }

        /** Lets days go by, and tells how much flocks drank in them. */
        int liveDays(int days) {
            int drunk = 0;
            for (int gone = 0; gone < days; gone++) {
                drunk += liveDay();
            }
            return drunk;
        }

        int liveDay() {
            int dayOfTable = Math.floorMod(day, TABLE_DAYS);
            Weather today = weatherAt(dayOfTable);
            for (int number = 0; number < pondCount; number++) {
                ponds[number].takeMist(today.mist);
                ponds[number].takeRain(today.rain);
            }
            int drunk = waterFlocks();
            for (int number = 0; number < pondCount; number++) {
                ponds[number].dryBy(today.sun);
                ponds[number].leak();
            }
            runOver();
            if (dayOfTable == TABLE_DAYS - 1) {
                rotStraw();
            }
            day++;
            return drunk;
        }

        private int waterFlocks() {
            int drunk = 0;
            for (int number = 0; number < flockCount; number++) {
                Flock flock = flocks[number];
                if (!flock.isLost()) {
                    if (flock.roams && flock.thirst > 0) {
                        flock.pond = nearestWaterFor(flock);
                    }
                    Pond here = pondAt(flock.pond);
                    int given = here.giveDrink(flock.need());
                    flock.drink(given);
                    here.treadBy(flock.sheep);
                    drunk += given;
                }
            }
            return drunk;
        }

        /** The pond to which a roaming flock goes; the one where it is, if it stays. */
        private int nearestWaterFor(Flock flock) {
            Pond here = pondAt(flock.pond);
            int nearest = flock.pond;
            if (here.water >= flock.need()) {
                return nearest;
            }
            int least = Integer.MAX_VALUE;
            for (int number = 0; number < pondCount; number++) {
                int way = here.distanceTo(ponds[number]);
                if (ponds[number].water >= flock.need() && way < least) {
                    least = way;
                    nearest = number;
                }
            }
            return nearest;
        }

        // A pond runs over into lower ones alone, so that those behind it in the
        // order get its water before their own turn comes.
        private void runOver() {
            for (int rank = 0; rank < pondCount; rank++) {
                Pond upper = pondAt(byHeight[rank]);
                int excess = upper.spill();
                if (upper.runsInto != NONE) {
                    pondAt(upper.runsInto).water += excess;
                }
            }
        }

        private void rotStraw() {
            for (int number = 0; number < pondCount; number++) {
                ponds[number].hasStraw = false;
            }
        }

        private boolean isTaken(int x, int y) {
            for (int number = 0; number < pondCount; number++) {
                if (ponds[number].x == x && ponds[number].y == y) {
                    return true;
                }
            }
            return false;
        }

        /** The ponds from which water can come to this one, as the sum of the powers 2^k of their numbers. */
        int sourcesOf(int goal) {
            int sum = 0;
            for (int number = 0; number < pondCount; number++) {
                if (runsDownTo(number, goal)) {
                    sum |= 1 << number;
                }
            }
            return sum;
        }

        private boolean runsDownTo(int source, int goal) {
            int at = pondAt(source).runsInto;
            for (int steps = 0; steps < MOST_PONDS && at != NONE; steps++) {
                if (at == goal) {
                    return true;
                }
                at = pondAt(at).runsInto;
            }
            return false;
        }

        int flocksAt(int pond) {
            int found = 0;
            for (int number = 0; number < flockCount; number++) {
                if (flocks[number].pond == pond && !flocks[number].isLost()) {
                    found++;
                }
            }
            return found;
        }

        int lostFlocks() {
            int lost = 0;
            for (int number = 0; number < flockCount; number++) {
                if (flocks[number].isLost()) {
                    lost++;
                }
            }
            return lost;
        }

        int livingSheep() {
            int sheep = 0;
            for (int number = 0; number < flockCount; number++) {
                if (!flocks[number].isLost()) {
                    sheep += flocks[number].sheep;
                }
            }
            return sheep;
        }

        int allWater() {
            int water = 0;
            for (int number = 0; number < pondCount; number++) {
                water += ponds[number].water;
            }
            return water;
        }

        int allHold() {
            int holds = 0;
            for (int number = 0; number < pondCount; number++) {
                holds += ponds[number].holds();
            }
            return holds;
        }

        int emptyPonds() {
            int empty = 0;
            for (int number = 0; number < pondCount; number++) {
                if (ponds[number].water == 0) {
                    empty++;
                }
            }
            return empty;
        }
    }
}
