/** A camp of tents on a slope; ../shared/DOC.md says what each call promises. */
public final class TentCamp {
    private static final int SIDE = 10;
    private static final int CELLS = SIDE * SIDE;
    private static final int MOST_HEIGHT = 30;
    private static final int LEAST_FIRMNESS = 1;
    private static final int FIRST_FIRMNESS = 5;
    private static final int MOST_FIRMNESS = 9;
    private static final int MOST_PEGS = 16;
    private static final int MOST_TENTS = 8;
    private static final int MOST_SIZE = 9;
    private static final int MOST_ROPES = 6;
    private static final int MOST_FORCE = 9;
    private static final int MOST_DIRECTION = 3;
    private static final int MOST_RAIN = 9;
    private static final int TABLE_NIGHTS = 7;
    private static final int MOST_NIGHTS = 30;
    private static final int WETTING_FLOOD = 10;
    private static final int SOFTENING_FLOOD = 20;

    private final NightTable table;
    private final Camp camp;
    /** Made once and used again, as foresee() may be asked in every call. */
    private final Camp trial;

    public TentCamp() {
        table = new NightTable();
        camp = new Camp();
        trial = new Camp();
    }

    // ---- slope, nights

    public int setGround(int x, int y, int height, int firmness)
            throws IndexOutOfBoundsException, IllegalArgumentException {
        int cell = needCell(x, y);
        if (height < 0 || height > MOST_HEIGHT || firmness < LEAST_FIRMNESS || firmness > MOST_FIRMNESS) {
            throw new IllegalArgumentException("height is not 0 to 30, or firmness is not 1 to 9");
        }
        return camp.slope.shape(cell, height, firmness);
    }

    public boolean ditch(int x, int y) throws IndexOutOfBoundsException {
        int cell = needCell(x, y);
        camp.slope.ditched[cell] = !camp.slope.ditched[cell];
        return camp.slope.ditched[cell];
    }

    public int setNight(int night, int force, int direction, int rain)
            throws IndexOutOfBoundsException, IllegalArgumentException {
        if (night < 0 || night >= TABLE_NIGHTS) {
            throw new IndexOutOfBoundsException("night is not 0 to 6");
        }
        needStorm(force, direction);
        needRain(rain);
        int before = table.weatherOf(night);
        table.force[night] = force;
        table.direction[night] = direction;
        table.rain[night] = rain;
        return before;
    }

    // ---- pegs, tents, ropes

    public int drive(int x, int y) throws IndexOutOfBoundsException, IllegalStateException {
        int peg = camp.pegs.driveAt(needCell(x, y));
        if (peg < 0) {
            throw new IllegalStateException("there are 16 pegs, or one is there");
        }
        return peg;
    }

    public int again(int peg) throws IndexOutOfBoundsException, IllegalStateException {
        needPeg(peg);
        if (hasBit(camp.pegs.in, peg)) {
            throw new IllegalStateException("the peg is in");
        }
        camp.pegs.in |= 1 << peg;
        return camp.holdOf(peg);
    }

    public int pitch(int x, int y, int size)
            throws IndexOutOfBoundsException, IllegalArgumentException, IllegalStateException {
        int cell = needCell(x, y);
        if (size < 1 || size > MOST_SIZE) {
            throw new IllegalArgumentException("size is not 1 to 9");
        }
        int tent = camp.tents.pitchAt(cell, size);
        if (tent < 0) {
            throw new IllegalStateException("there are 8 tents, or one is there");
        }
        return tent;
    }

    public int raise(int tent) throws IndexOutOfBoundsException, IllegalStateException {
        needTent(tent);
        if (hasBit(camp.tents.standing, tent)) {
            throw new IllegalStateException("the tent stands");
        }
        camp.tents.standing |= 1 << tent;
        camp.tents.wet &= ~(1 << tent);
        return camp.ropesToPegsIn(tent);
    }

    public int tie(int tent, int peg) throws IndexOutOfBoundsException, IllegalStateException {
        needTent(tent);
        needPeg(peg);
        if (!camp.tents.hasRope(tent, peg) && camp.tents.ropesOf(tent) >= MOST_ROPES) {
            throw new IllegalStateException("the tent has 6 ropes");
        }
        camp.tents.turnRope(tent, peg);
        return camp.tents.ropesOf(tent);
    }

    // ---- what is there

    public int ground(int x, int y, int what) throws IndexOutOfBoundsException {
        int cell = needCell(x, y);
        needWhat(what, 4);
        switch (what) {
            case 0: return camp.slope.height[cell];
            case 1: return camp.slope.firmness[cell];
            case 2: return camp.slope.ditched[cell] ? 1 : 0;
            case 3: return camp.pegs.findAt(cell);
            default: return camp.tents.findAt(cell);
        }
    }

    public int peg(int peg, int what) throws IndexOutOfBoundsException {
        needPeg(peg);
        needWhat(what, 4);
        switch (what) {
            case 0: return camp.pegs.cell[peg] % SIDE;
            case 1: return camp.pegs.cell[peg] / SIDE;
            case 2: return hasBit(camp.pegs.in, peg) ? 1 : 0;
            case 3: return hasBit(camp.pegs.in, peg) ? camp.holdOf(peg) : 0;
            default: return camp.tents.ropesTo(peg);
        }
    }

    public int tent(int tent, int what) throws IndexOutOfBoundsException {
        needTent(tent);
        needWhat(what, 6);
        switch (what) {
            case 0: return camp.tents.cell[tent] % SIDE;
            case 1: return camp.tents.cell[tent] / SIDE;
            case 2: return camp.tents.size[tent];
            case 3: return hasBit(camp.tents.standing, tent) ? 1 : 0;
            case 4: return hasBit(camp.tents.wet, tent) ? 1 : 0;
            case 5: return camp.tents.ropesOf(tent);
            default: return camp.ropesToPegsIn(tent);
        }
    }

    public int count(int what) throws IndexOutOfBoundsException {
        needWhat(what, 7);
        switch (what) {
            case 0: return camp.night;
            case 1: return camp.pegs.driven;
            case 2: return Integer.bitCount(camp.pegs.in);
            case 3: return camp.tents.pitched;
            case 4: return Integer.bitCount(camp.tents.standing);
            case 5: return camp.tents.dryFloors();
            case 6: return camp.tents.allRopes();
            default: return camp.slope.ditches();
        }
    }

    // ---- what would be

    public int holds(int tent, int force, int direction)
            throws IndexOutOfBoundsException, IllegalArgumentException {
        needTent(tent);
        needStorm(force, direction);
        return Integer.bitCount(camp.ropesOnSide(tent, direction) & camp.pegs.in);
    }

    public int storm(int force, int direction, int what)
            throws IllegalArgumentException, IndexOutOfBoundsException {
        needStorm(force, direction);
        needWhat(what, 2);
        Storm gale = camp.gale;
        gale.blow(camp, force, direction);
        switch (what) {
            case 0: return Integer.bitCount(gale.standing);
            case 1: return Integer.bitCount(gale.pegsIn);
            default: return gale.rounds;
        }
    }

    public int bears(int direction) throws IllegalArgumentException {
        needDirection(direction);
        return camp.forceBorneBy(camp.tents.standing, direction);
    }

    public int flood(int rain, int x, int y) throws IllegalArgumentException, IndexOutOfBoundsException {
        needRain(rain);
        int cell = needCell(x, y);
        camp.slope.letRunOff(rain);
        return camp.slope.floodOf(cell);
    }

    public int advise(int tent, int direction) throws IndexOutOfBoundsException, IllegalArgumentException {
        needTent(tent);
        needDirection(direction);
        if (!hasBit(camp.tents.standing, tent) || camp.tents.ropesOf(tent) >= MOST_ROPES) {
            return -1;
        }
        return camp.bestNewRope(tent, direction);
    }

    // ---- nights

    public int pass(int nights) throws IllegalArgumentException {
        needNights(nights);
        int stood = Integer.bitCount(camp.tents.standing);
        camp.sleep(nights, table);
        return stood - Integer.bitCount(camp.tents.standing);
    }

    public int foresee(int nights, int what) throws IllegalArgumentException, IndexOutOfBoundsException {
        needNights(nights);
        needWhat(what, 2);
        trial.copyFrom(camp);
        trial.sleep(nights, table);
        switch (what) {
            case 0: return Integer.bitCount(trial.tents.standing);
            case 1: return trial.tents.dryFloors();
            default: return Integer.bitCount(trial.pegs.in);
        }
    }

    public double mean() {
        int sum = 0;
        for (int cell = 0; cell < CELLS; cell++) {
            sum += camp.slope.firmness[cell];
        }
        return (double) sum / CELLS;
    }

    public long digest() {
        long d = 881;
        for (int what = 0; what <= 7; what++) {
            d = d * 31 + count(what);
        }
        d = addGround(d);
        for (int night = 0; night < TABLE_NIGHTS; night++) {
            d = d * 31 + table.weatherOf(night);
        }
        d = addPegs(d);
        return addTents(d);
    }

    private long addGround(long start) {
        long d = start;
        for (int cell = 0; cell < CELLS; cell++) {
            for (int what = 0; what <= 4; what++) {
                d = d * 31 + ground(cell % SIDE, cell / SIDE, what);
            }
        }
        return d;
    }

    private long addPegs(long start) {
        long d = start;
        for (int peg = 0; peg < camp.pegs.driven; peg++) {
            for (int what = 0; what <= 4; what++) {
                d = d * 31 + peg(peg, what);
            }
        }
        return d;
    }

    private long addTents(long start) {
        long d = start;
        for (int tent = 0; tent < camp.tents.pitched; tent++) {
            for (int what = 0; what <= 6; what++) {
                d = d * 31 + tent(tent, what);
            }
            for (int peg = 0; peg < camp.pegs.driven; peg++) {
                d = d * 31 + (camp.tents.hasRope(tent, peg) ? 1 : 0);
            }
        }
        return d;
    }

    private static int needCell(int x, int y) {
        if (!isOnSlope(x, y)) {
            throw new IndexOutOfBoundsException("x or y is not 0 to 9");
        }
        return SIDE * y + x;
    }

    private void needPeg(int peg) {
        if (peg < 0 || peg >= camp.pegs.driven) {
            throw new IndexOutOfBoundsException("there is no such peg");
        }
    }

    private void needTent(int tent) {
        if (tent < 0 || tent >= camp.tents.pitched) {
            throw new IndexOutOfBoundsException("there is no such tent");
        }
    }

    private static void needWhat(int what, int most) {
        if (what < 0 || what > most) {
            throw new IndexOutOfBoundsException("there is no such what");
        }
    }

    private static void needStorm(int force, int direction) {
        if (force < 0 || force > MOST_FORCE) {
            throw new IllegalArgumentException("force is not 0 to 9");
        }
        needDirection(direction);
    }

    private static void needDirection(int direction) {
        if (direction < 0 || direction > MOST_DIRECTION) {
            throw new IllegalArgumentException("direction is not 0 to 3");
        }
    }

    private static void needRain(int rain) {
        if (rain < 0 || rain > MOST_RAIN) {
            throw new IllegalArgumentException("rain is not 0 to 9");
        }
    }

    private static void needNights(int nights) {
        if (nights < 1 || nights > MOST_NIGHTS) {
            throw new IllegalArgumentException("nights is not 1 to 30");
        }
    }

    private static boolean isOnSlope(int x, int y) {
        return x >= 0 && x < SIDE && y >= 0 && y < SIDE;
    }

    private static boolean isCell(int cell) {
        return cell >= 0 && cell < CELLS;
    }

    private static boolean hasBit(int bits, int number) {
        return (bits >> number & 1) == 1;
    }

    /** The weather of the nights, by the remainder of 7. */
    private static final class NightTable {
        final int[] force = new int[TABLE_NIGHTS];
        final int[] direction = new int[TABLE_NIGHTS];
        final int[] rain = new int[TABLE_NIGHTS];

        int weatherOf(int night) {
            return 100 * force[night] + 10 * direction[night] + rain[night];
        }
    }

    private static final class Slope {
        private static final int[] NEIGHBOUR_X = {0, -1, 1, 0};
        private static final int[] NEIGHBOUR_Y = {-1, 0, 0, 1};

        final int[] height = new int[CELLS];
        final int[] firmness = new int[CELLS];
        final boolean[] ditched = new boolean[CELLS];
        /** Kept, as only setGround() changes it, but every rain goes by it. */
        final int[] fromTheTop = new int[CELLS];
        /** A cell gets water only ahead of its turn, so this is its flood when all has run off. */
        final int[] water = new int[CELLS];

        Slope() {
            for (int cell = 0; cell < CELLS; cell++) {
                height[cell] = SIDE - 1 - cell / SIDE;
                firmness[cell] = FIRST_FIRMNESS;
            }
            sortFromTheTop();
        }

        int shape(int cell, int newHeight, int newFirmness) {
            int before = 10 * height[cell] + firmness[cell];
            height[cell] = newHeight;
            firmness[cell] = newFirmness;
            sortFromTheTop();
            return before;
        }

        private void sortFromTheTop() {
            int place = 0;
            for (int level = MOST_HEIGHT; level >= 0; level--) {
                for (int cell = 0; cell < CELLS; cell++) {
                    if (height[cell] == level && place < CELLS) {
                        fromTheTop[place] = cell;
                        place++;
                    }
                }
            }
        }

        void letRunOff(int rain) {
            for (int cell = 0; cell < CELLS; cell++) {
                water[cell] = rain;
            }
            for (int place = 0; place < CELLS; place++) {
                runOn(fromTheTop[place]);
            }
        }

        private void runOn(int cell) {
            if (!isCell(cell) || ditched[cell]) {
                return;
            }
            int below = lowerNeighbour(cell);
            if (isCell(below)) {
                water[below] += water[cell];
            }
        }

        private int lowerNeighbour(int cell) {
            int lowest = -1;
            int least = height[cell];
            for (int side = 0; side < 4; side++) {
                int x = cell % SIDE + NEIGHBOUR_X[side];
                int y = cell / SIDE + NEIGHBOUR_Y[side];
                if (isOnSlope(x, y) && height[SIDE * y + x] < least) {
                    lowest = SIDE * y + x;
                    least = height[lowest];
                }
            }
            return lowest;
        }

        int floodOf(int cell) {
            return isCell(cell) ? water[cell] : 0;
        }

        void soften() {
            for (int cell = 0; cell < CELLS; cell++) {
                if (water[cell] >= SOFTENING_FLOOD && firmness[cell] > LEAST_FIRMNESS) {
                    firmness[cell]--;
                }
            }
        }

        int ditches() {
            int sum = 0;
            for (int cell = 0; cell < CELLS; cell++) {
                sum += ditched[cell] ? 1 : 0;
            }
            return sum;
        }

        void copyFrom(Slope other) {
            for (int cell = 0; cell < CELLS; cell++) {
                height[cell] = other.height[cell];
                firmness[cell] = other.firmness[cell];
                ditched[cell] = other.ditched[cell];
                fromTheTop[cell] = other.fromTheTop[cell];
            }
        }
    }

    private static final class Pegs {
        final int[] cell = new int[MOST_PEGS];
        int driven;
        /** A bit for each peg, so that a storm can try it out on a copy. */
        int in;

        int driveAt(int where) {
            if (driven >= MOST_PEGS || findAt(where) >= 0) {
                return -1;
            }
            int peg = driven;
            cell[peg] = where;
            in |= 1 << peg;
            driven++;
            return peg;
        }

        int findAt(int where) {
            for (int peg = 0; peg < driven; peg++) {
                if (cell[peg] == where) {
                    return peg;
                }
            }
            return -1;
        }

        void copyFrom(Pegs other) {
            driven = other.driven;
            in = other.in;
            for (int peg = 0; peg < MOST_PEGS; peg++) {
                cell[peg] = other.cell[peg];
            }
        }
    }

    private static final class Tents {
        final int[] cell = new int[MOST_TENTS];
        final int[] size = new int[MOST_TENTS];
        /** For each tent a bit for each peg to which a rope of it leads. */
        final int[] ropes = new int[MOST_TENTS];
        int pitched;
        /** A bit for each tent, so that a storm can try it out on a copy. */
        int standing;
        /** A bit for each tent. */
        int wet;

        int pitchAt(int where, int newSize) {
            if (pitched >= MOST_TENTS || findAt(where) >= 0) {
                return -1;
            }
            int tent = pitched;
            cell[tent] = where;
            size[tent] = newSize;
            standing |= 1 << tent;
            pitched++;
            return tent;
        }

        int findAt(int where) {
            for (int tent = 0; tent < pitched; tent++) {
                if (cell[tent] == where) {
                    return tent;
                }
            }
            return -1;
        }

        boolean hasRope(int tent, int peg) {
            return hasBit(ropes[tent], peg);
        }

        void turnRope(int tent, int peg) {
            ropes[tent] ^= 1 << peg;
        }

        int ropesOf(int tent) {
            return Integer.bitCount(ropes[tent]);
        }

        int ropesTo(int peg) {
            int sum = 0;
            for (int tent = 0; tent < pitched; tent++) {
                sum += hasRope(tent, peg) ? 1 : 0;
            }
            return sum;
        }

        int allRopes() {
            int sum = 0;
            for (int tent = 0; tent < pitched; tent++) {
                sum += ropesOf(tent);
            }
            return sum;
        }

        int dryFloors() {
            return pitched - Integer.bitCount(wet);
        }

        void copyFrom(Tents other) {
            pitched = other.pitched;
            standing = other.standing;
            wet = other.wet;
            for (int tent = 0; tent < MOST_TENTS; tent++) {
                cell[tent] = other.cell[tent];
                size[tent] = other.size[tent];
                ropes[tent] = other.ropes[tent];
            }
        }
    }

    /** A storm changes only its own copies; a night that it really rages in takes them over. */
    private static final class Storm {
        /** Each round but the last one costs a peg or a tent. */
        private static final int MOST_ROUNDS = MOST_PEGS + MOST_TENTS + 1;

        int standing;
        int pegsIn;
        int rounds;
        /** For each tent a bit for each peg on the side of the storm to which a rope of it leads. */
        private final int[] onSide = new int[MOST_TENTS];
        private final int[] pull = new int[MOST_PEGS];

        void blow(Camp camp, int force, int direction) {
            standing = camp.tents.standing;
            pegsIn = camp.pegs.in;
            rounds = 0;
            for (int tent = 0; tent < camp.tents.pitched; tent++) {
                onSide[tent] = camp.ropesOnSide(tent, direction);
            }
            boolean goesOn = force > 0;
            while (goesOn && rounds < MOST_ROUNDS) {
                int stood = standing;
                int wereIn = pegsIn;
                dropTents(camp.tents);
                pullAtPegs(camp.tents, force);
                tearPegsOut(camp);
                goesOn = standing != stood || pegsIn != wereIn;
                rounds++;
            }
        }

        private void dropTents(Tents tents) {
            for (int tent = 0; tent < tents.pitched; tent++) {
                if ((onSide[tent] & pegsIn) == 0) {
                    standing &= ~(1 << tent);
                }
            }
        }

        private void pullAtPegs(Tents tents, int force) {
            for (int peg = 0; peg < MOST_PEGS; peg++) {
                pull[peg] = 0;
            }
            for (int tent = 0; tent < tents.pitched; tent++) {
                int holding = onSide[tent] & pegsIn;
                int ropes = Integer.bitCount(holding);
                if (hasBit(standing, tent) && ropes > 0) {
                    addPull(holding, tents.size[tent] * force / ropes);
                }
            }
        }

        private void addPull(int holding, int eachRope) {
            for (int peg = 0; peg < MOST_PEGS; peg++) {
                if (hasBit(holding, peg)) {
                    pull[peg] += eachRope;
                }
            }
        }

        private void tearPegsOut(Camp camp) {
            for (int peg = 0; peg < camp.pegs.driven; peg++) {
                if (pull[peg] > camp.holdOf(peg)) {
                    pegsIn &= ~(1 << peg);
                }
            }
        }
    }

    private static final class Camp {
        final Slope slope = new Slope();
        final Pegs pegs = new Pegs();
        final Tents tents = new Tents();
        final Storm gale = new Storm();
        int night;

        int holdOf(int peg) {
            int cell = pegs.cell[peg];
            return isCell(cell) ? 4 * slope.firmness[cell] : 0;
        }

        int ropesToPegsIn(int tent) {
            return Integer.bitCount(tents.ropes[tent] & pegs.in);
        }

        int ropesOnSide(int tent, int direction) {
            int bits = 0;
            for (int peg = 0; peg < pegs.driven; peg++) {
                if (tents.hasRope(tent, peg) && isOnSide(pegs.cell[peg], tents.cell[tent], direction)) {
                    bits |= 1 << peg;
                }
            }
            return bits;
        }

        private static boolean isOnSide(int pegCell, int tentCell, int direction) {
            switch (direction) {
                case 0: return pegCell / SIDE < tentCell / SIDE;
                case 1: return pegCell % SIDE > tentCell % SIDE;
                case 2: return pegCell / SIDE > tentCell / SIDE;
                default: return pegCell % SIDE < tentCell % SIDE;
            }
        }

        int forceBorneBy(int tentBits, int direction) {
            for (int force = MOST_FORCE; force > 0; force--) {
                gale.blow(this, force, direction);
                if ((gale.standing & tentBits) == tentBits) {
                    return force;
                }
            }
            return 0;
        }

        int bestNewRope(int tent, int direction) {
            int bestPeg = -1;
            int bestForce = forceBorneBy(1 << tent, direction);
            for (int peg = 0; peg < pegs.driven; peg++) {
                if (!tents.hasRope(tent, peg)) {
                    tents.turnRope(tent, peg);
                    int force = forceBorneBy(1 << tent, direction);
                    tents.turnRope(tent, peg);
                    if (force > bestForce) {
                        bestPeg = peg;
                        bestForce = force;
                    }
                }
            }
            return bestPeg;
        }

        void sleep(int nights, NightTable table) {
            for (int slept = 0; slept < nights; slept++) {
                sleepOnce(table);
            }
        }

        private void sleepOnce(NightTable table) {
            int row = Math.floorMod(night, TABLE_NIGHTS);
            gale.blow(this, table.force[row], table.direction[row]);
            tents.standing = gale.standing;
            pegs.in = gale.pegsIn;
            slope.letRunOff(table.rain[row]);
            wetFloors(table.rain[row]);
            slope.soften();
            night++;
        }

        private void wetFloors(int rain) {
            for (int tent = 0; tent < tents.pitched; tent++) {
                boolean uncovered = !hasBit(tents.standing, tent) && rain > 0;
                if (uncovered || slope.floodOf(tents.cell[tent]) >= WETTING_FLOOD) {
                    tents.wet |= 1 << tent;
                }
            }
        }

        void copyFrom(Camp other) {
            slope.copyFrom(other.slope);
            pegs.copyFrom(other.pegs);
            tents.copyFrom(other.tents);
            night = other.night;
        }
    }
}
