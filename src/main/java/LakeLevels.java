import java.util.Arrays;

/**
 * Water in a landscape of cells: basins, passes, lakes that fill, flow over, join and part.
 * The numbered promises of the document are the contract of the methods here.
 */
public final class LakeLevels {
    public static final int NONE = -1;

    private static final int MOST_COLUMNS = 6;
    private static final int MOST_ROWS = 6;
    private static final int MOST_CELLS = MOST_COLUMNS * MOST_ROWS;
    private static final int SIDES = 4;
    private static final int HIGHEST = 99;
    /** A forest over at most 36 basins in which each joined lake has two parts has at most 71 lakes. */
    private static final int MOST_LAKES = 2 * MOST_CELLS - 1;
    private static final int MOST_WATER = 1000000;
    private static final int MOST_POURED = 100000;
    private static final int MOST_RAIN = 1000;
    private static final int MOST_ROUNDS = 100;
    private static final int MOST_RAIN_TO_JOIN = 40;
    private static final int MOST_SEED = 999999;
    private static final int MOST_TEXT = 150;
    private static final int MOST_BYTE = 127;
    private static final int MOST_SAVED = 4;
    private static final int FAULT_BASE = -10;
    private static final int LAST_COUNT = 6;
    private static final int LAST_OF_CELL = 5;
    private static final int LAST_OF_LAKE = 9;
    private static final int LAST_OF_BALANCE = 3;
    /** Far above the flows of one pouring: each fills a lake, joins two, or goes over a lower pass. */
    private static final int MOST_FLOWS = 1000000;

    private final World world = new World();
    /** The what-if questions and the reading of a text work here, so that they leave the world alone. */
    private final World spare = new World();
    private final World[] saved = new World[MOST_SAVED];
    private final LandscapeText text = new LandscapeText();
    private int savedCount;
    private int nextSaved;

    public LakeLevels() {
        for (int place = 0; place < saved.length; place++) {
            saved[place] = new World();
        }
        world.ground.lay(1, 1);
        world.restart();
    }

    // ---- landscape

    public int begin(int columns, int rows) throws IllegalArgumentException {
        needWithin(columns, 1, MOST_COLUMNS);
        needWithin(rows, 1, MOST_ROWS);
        save();
        world.ground.lay(columns, rows);
        world.restart();
        return world.ground.cells;
    }

    public int setHeight(int cell, int height) throws IndexOutOfBoundsException, IllegalArgumentException {
        needCell(cell);
        needWithin(height, 0, HIGHEST);
        int before = world.ground.heights.at(cell);
        save();
        world.noteLakes();
        world.ground.heights.put(cell, height);
        world.renew();
        return before;
    }

    public boolean setDrain(int cell, boolean drain) throws IndexOutOfBoundsException {
        needCell(cell);
        boolean before = has(world.ground.drains, cell);
        save();
        world.noteLakes();
        world.ground.putDrain(cell, drain);
        world.renew();
        return before;
    }

    public int setGate(int a, int b, int height) throws IndexOutOfBoundsException, IllegalArgumentException {
        needNeighbors(a, b);
        needWithin(height, NONE, HIGHEST);
        int before = world.ground.gates.at(world.ground.sideTo(a, b));
        save();
        world.noteLakes();
        world.ground.putGate(a, b, height);
        world.renew();
        return before;
    }

    public int random(int seed, int highest) throws IllegalArgumentException {
        needWithin(seed, 0, MOST_SEED);
        needWithin(highest, 0, HIGHEST);
        save();
        world.noteLakes();
        world.ground.scatter(seed, highest);
        world.renew();
        return world.ways.basinCount;
    }

    public int cell(int cell, int what) throws IndexOutOfBoundsException, IllegalArgumentException {
        needCell(cell);
        needWithin(what, 0, LAST_OF_CELL);
        return cellValue(cell, what);
    }

    public int between(int a, int b, boolean threshold) throws IndexOutOfBoundsException {
        needNeighbors(a, b);
        int side = world.ground.sideTo(a, b);
        return threshold ? world.ground.thresholds.at(side) : world.ground.gates.at(side);
    }

    public int count(int what) throws IllegalArgumentException {
        needWithin(what, 0, LAST_COUNT);
        return countValue(what);
    }

    // ---- water

    public int pour(int cell, int amount)
            throws IndexOutOfBoundsException, IllegalArgumentException, IllegalStateException {
        needCell(cell);
        needWithin(amount, 0, MOST_POURED);
        needRoom(amount);
        save();
        world.poured += amount;
        return world.pourAt(cell, amount);
    }

    public int rain(int amount) throws IllegalArgumentException, IllegalStateException {
        needWithin(amount, 0, MOST_RAIN);
        needRoom(amount * world.ground.cells);
        save();
        world.poured += amount * world.ground.cells;
        return world.pourAtAll(amount);
    }

    public int evaporate(int rounds) throws IllegalArgumentException {
        needWithin(rounds, 0, MOST_ROUNDS);
        save();
        return world.dry(rounds);
    }

    public int take(int lake, int amount) throws IndexOutOfBoundsException, IllegalArgumentException {
        int place = needLake(lake);
        needWithin(amount, 0, world.lakes.volumes.at(place));
        save();
        world.lakes.draw(place, amount);
        world.evaporated += amount;
        return world.lakes.total();
    }

    public long balance(int what) throws IllegalArgumentException {
        needWithin(what, 0, LAST_OF_BALANCE);
        return balanceValue(what);
    }

    // ---- lakes

    public int lake(int lake, int what) throws IndexOutOfBoundsException, IllegalArgumentException {
        int place = needLake(lake);
        needWithin(what, 0, LAST_OF_LAKE);
        return lakeValue(place, what);
    }

    public long lakeCells(int lake) throws IndexOutOfBoundsException {
        return world.lakes.cells.at(needLake(lake));
    }

    public int level(int lake, int part) throws IndexOutOfBoundsException, IllegalArgumentException {
        int place = needLake(lake);
        needWithin(part, 0, 1);
        return levelPart(place, part);
    }

    public double depth(int cell) throws IndexOutOfBoundsException {
        needCell(cell);
        return depthValue(cell);
    }

    public int deepest() {
        int deepest = NONE;
        double most = 0.0;
        for (int cell = 0; cell < world.ground.cells; cell++) {
            // Fractions with denominators up to 36 are so far apart that their doubles compare as they do.
            double depth = depthValue(cell);
            if (depth > most) {
                most = depth;
                deepest = cell;
            }
        }
        return deepest;
    }

    public long course(int cell) throws IndexOutOfBoundsException {
        needCell(cell);
        return world.ways.courseFrom(cell);
    }

    // ---- what if

    public int amountFor(int at, int target) throws IndexOutOfBoundsException {
        needCell(at);
        needCell(target);
        if (wouldBeWet(at, 0, target)) {
            return 0;
        }
        if (!wouldBeWet(at, MOST_POURED, target)) {
            return NONE;
        }
        // Pouring more never makes a cell dry again, so halving finds the smallest amount.
        int tooLittle = 0;
        int enough = MOST_POURED;
        for (int step = 0; step < MOST_POURED && enough - tooLittle > 1; step++) {
            int middle = (tooLittle + enough) / 2;
            if (wouldBeWet(at, middle, target)) {
                enough = middle;
            } else {
                tooLittle = middle;
            }
        }
        return enough;
    }

    public int rainToJoin() {
        int now = world.lakes.total();
        // One lake alone, or none, can't become fewer.
        for (int amount = 1; now > 1 && amount <= MOST_RAIN_TO_JOIN; amount++) {
            spare.copyFrom(world);
            spare.pourAtAll(amount);
            if (spare.lakes.total() < now) {
                return amount;
            }
        }
        return NONE;
    }

    public int withoutGate(int a, int b) throws IndexOutOfBoundsException {
        needNeighbors(a, b);
        spare.copyFrom(world);
        spare.noteLakes();
        spare.ground.putGate(a, b, NONE);
        spare.renew();
        return spare.wetTotal() - world.wetTotal();
    }

    // ---- text

    public int append(int value) throws IllegalArgumentException, IllegalStateException {
        needWithin(value, 0, MOST_BYTE);
        if (text.length >= MOST_TEXT) {
            throw new IllegalStateException("the text is full");
        }
        text.add(value);
        return text.length;
    }

    public int clearText() {
        int before = text.length;
        text.length = 0;
        return before;
    }

    public int parse() {
        int fault = text.readInto(spare.ground);
        if (fault != NONE) {
            return FAULT_BASE - fault;
        }
        save();
        world.ground.copyFrom(spare.ground);
        world.restart();
        return world.ways.basinCount;
    }

    // ---- state

    public int undo() throws IllegalStateException {
        if (savedCount <= 0) {
            throw new IllegalStateException("there is no saved state");
        }
        nextSaved = (nextSaved + MOST_SAVED - 1) % MOST_SAVED;
        savedCount--;
        world.copyFrom(savedAt(nextSaved));
        return savedCount;
    }

    public long digest() {
        long hash = mix(3049L, text.length);
        for (int what = 0; what <= LAST_COUNT; what++) {
            hash = mix(hash, countValue(what));
        }
        for (int cell = 0; cell < world.ground.cells; cell++) {
            for (int what = 0; what <= LAST_OF_CELL; what++) {
                hash = mix(hash, cellValue(cell, what));
            }
        }
        int lakeCount = world.lakes.total();
        for (int lake = 0; lake < lakeCount; lake++) {
            hash = mixLake(hash, world.lakes.placeOf(lake));
        }
        for (int what = 0; what <= LAST_OF_BALANCE; what++) {
            hash = mix(hash, balanceValue(what));
        }
        return mix(hash, savedCount);
    }

    // ---- what the calls demand

    private void needCell(int cell) {
        if (!world.ground.exists(cell)) {
            throw new IndexOutOfBoundsException("no such cell");
        }
    }

    private void needNeighbors(int a, int b) {
        if (world.ground.sideTo(a, b) == NONE) {
            throw new IndexOutOfBoundsException("no such cell, or no neighbors");
        }
    }

    /** Returns the place at which the lake with this number is kept. */
    private int needLake(int lake) {
        int place = world.lakes.placeOf(lake);
        if (place == NONE) {
            throw new IndexOutOfBoundsException("no such lake");
        }
        return place;
    }

    private void needRoom(int amount) {
        if (world.lakes.water() + amount > MOST_WATER) {
            throw new IllegalStateException("too much water");
        }
    }

    private static void needWithin(int value, int least, int most) {
        if (value < least || value > most) {
            throw new IllegalArgumentException("an argument is out of range");
        }
    }

    // ---- saved states

    private void save() {
        savedAt(nextSaved).copyFrom(world);
        nextSaved = (nextSaved + 1) % MOST_SAVED;
        savedCount = Math.min(savedCount + 1, MOST_SAVED);
    }

    private World savedAt(int place) {
        World found = place >= 0 && place < saved.length ? saved[place] : null;
        return found == null ? spare : found;
    }

    // ---- single values

    private int cellValue(int cell, int what) {
        switch (what) {
            case 0: return world.ground.heights.at(cell);
            case 1: return has(world.ground.drains, cell) ? 1 : 0;
            case 2: return world.ways.basins.at(cell);
            case 3: return world.lakes.numberAt(cell);
            case 4: return world.isWet(cell) ? 1 : 0;
            default: return world.ways.isInPit(cell) ? 1 : 0;
        }
    }

    private int countValue(int what) {
        switch (what) {
            case 0: return world.ground.columns;
            case 1: return world.ground.rows;
            case 2: return world.ways.basinCount;
            case 3: return world.lakes.total();
            case 4: return world.wetTotal();
            case 5: return world.seaTotal();
            default: return world.lakes.fullTotal();
        }
    }

    private long balanceValue(int what) {
        switch (what) {
            case 0: return world.poured;
            case 1: return world.lakes.water();
            case 2: return world.lost;
            default: return world.evaporated;
        }
    }

    private int lakeValue(int place, int what) {
        Lakes lakes = world.lakes;
        int pass = lakes.passes.at(place);
        switch (what) {
            case 0: return lakes.volumes.at(place);
            case 1: return lakes.capacities.at(place);
            case 2: return lowestIn(lakes.cells.at(place));
            case 3: return Long.bitCount(lakes.cells.at(place));
            case 4: return Long.bitCount(lakes.wetCells(world.ground, place));
            case 5: return lakes.basinCounts.at(place);
            case 6: return world.ground.thresholds.at(pass);
            case 7: return pass == NONE ? NONE : pass / SIDES;
            case 8: return world.ground.beyond.at(pass);
            default: return lakes.lowestVolumes.at(place);
        }
    }

    private int levelPart(int place, int part) {
        Lakes lakes = world.lakes;
        long wet = lakes.wetCells(world.ground, place);
        if (wet == 0L) {
            return part == 0 ? world.ground.heights.at(lakes.lowestPlace(world.ground, place)) : 1;
        }
        int top = lakes.volumes.at(place) + world.ground.heightSum(wet);
        int bottom = Long.bitCount(wet);
        return reduced(part == 0 ? top : bottom, commonDivisor(top, bottom));
    }

    private double depthValue(int cell) {
        int place = world.lakes.lakeOf.at(cell);
        long wet = world.lakes.wetCells(world.ground, place);
        if (!has(wet, cell)) {
            return 0.0;
        }
        int bottom = Long.bitCount(wet);
        int top = world.lakes.volumes.at(place) + world.ground.heightSum(wet)
                - bottom * world.ground.heights.at(cell);
        int divisor = commonDivisor(top, bottom);
        int lowestBottom = reduced(bottom, divisor);
        return lowestBottom > 0 ? (double) reduced(top, divisor) / (double) lowestBottom : 0.0;
    }

    private boolean wouldBeWet(int at, int amount, int target) {
        spare.copyFrom(world);
        spare.pourAt(at, amount);
        return spare.isWet(target);
    }

    private long mixLake(long before, int place) {
        long hash = before;
        for (int what = 0; what <= LAST_OF_LAKE; what++) {
            hash = mix(hash, lakeValue(place, what));
        }
        hash = mix(hash, world.lakes.cells.at(place));
        hash = mix(hash, levelPart(place, 0));
        return mix(hash, levelPart(place, 1));
    }

    private static long mix(long hash, long value) {
        return 31L * hash + value;
    }

    // ---- fractions and sets

    /** Denominators are numbers of cells, so no greater divisor is of use. */
    private static int commonDivisor(int top, int bottom) {
        for (int divisor = MOST_CELLS; divisor > 1; divisor--) {
            if (top % divisor == 0 && bottom % divisor == 0) {
                return divisor;
            }
        }
        return 1;
    }

    private static int reduced(int value, int divisor) {
        return divisor > 1 ? value / divisor : value;
    }

    private static long bit(int cell) {
        return 1L << cell;
    }

    private static boolean has(long set, int cell) {
        return (set >> cell & 1L) != 0L;
    }

    private static int lowestIn(long set) {
        // Taking 1 from the lowest bit alone leaves just the bits below it, as many as its index says.
        return set == 0L ? NONE : Long.bitCount((set & -set) - 1L);
    }

    /** Numbers in a row; beyond its ends there is NONE, so that no index makes the machine throw. */
    private static final class NumberRow {
        private final int[] values;

        NumberRow(int length) {
            values = new int[Math.max(length, 0)];
        }

        int at(int index) {
            return index >= 0 && index < values.length ? values[index] : NONE;
        }

        void put(int index, int value) {
            if (index >= 0 && index < values.length) {
                values[index] = value;
            }
        }

        void fill(int value) {
            Arrays.fill(values, value);
        }

        void copyFrom(NumberRow other) {
            System.arraycopy(other.values, 0, values, 0, Math.min(other.values.length, values.length));
        }
    }

    /** Sets of cells in a row; beyond its ends there is the empty set. */
    private static final class SetRow {
        private final long[] values;

        SetRow(int length) {
            values = new long[Math.max(length, 0)];
        }

        long at(int index) {
            return index >= 0 && index < values.length ? values[index] : 0L;
        }

        void put(int index, long value) {
            if (index >= 0 && index < values.length) {
                values[index] = value;
            }
        }

        void fill(long value) {
            Arrays.fill(values, value);
        }

        void copyFrom(SetRow other) {
            System.arraycopy(other.values, 0, values, 0, Math.min(other.values.length, values.length));
        }
    }

    /**
     * The cells with their heights, drains and gates. Cell c has the sides 4 * c to 4 * c + 3, in the
     * order of the neighbors beyond them, so that the lowest side is the one with the lowest cells.
     */
    private static final class Ground {
        private int columns;
        private int rows;
        private int cells;
        private long drains;
        private final NumberRow heights = new NumberRow(MOST_CELLS);
        private final NumberRow beyond = new NumberRow(MOST_CELLS * SIDES);
        /** A gate stands at both of its sides. */
        private final NumberRow gates = new NumberRow(MOST_CELLS * SIDES);
        /** Where no cell is beyond a side, the threshold is higher than all cells: no water can run there. */
        private final NumberRow thresholds = new NumberRow(MOST_CELLS * SIDES);
        /** The cells by height, then by number. */
        private final NumberRow order = new NumberRow(MOST_CELLS);

        void copyFrom(Ground other) {
            columns = other.columns;
            rows = other.rows;
            cells = other.cells;
            drains = other.drains;
            heights.copyFrom(other.heights);
            beyond.copyFrom(other.beyond);
            gates.copyFrom(other.gates);
            thresholds.copyFrom(other.thresholds);
            order.copyFrom(other.order);
        }

        void lay(int columnCount, int rowCount) {
            columns = columnCount;
            rows = rowCount;
            cells = columnCount * rowCount;
            drains = 0L;
            heights.fill(0);
            beyond.fill(NONE);
            gates.fill(NONE);
            for (int row = 0; row < rows; row++) {
                for (int column = 0; column < columns; column++) {
                    laySides(row, column);
                }
            }
        }

        private void laySides(int row, int column) {
            int cell = columns * row + column;
            int side = SIDES * cell;
            beyond.put(side, row > 0 ? cell - columns : NONE);
            beyond.put(side + 1, column > 0 ? cell - 1 : NONE);
            beyond.put(side + 2, column < columns - 1 ? cell + 1 : NONE);
            beyond.put(side + 3, row < rows - 1 ? cell + columns : NONE);
        }

        boolean exists(int cell) {
            return cell >= 0 && cell < cells;
        }

        /** Returns the side of a that b is beyond, NONE if they are no neighbors. */
        int sideTo(int a, int b) {
            if (!exists(a) || !exists(b)) {
                return NONE;
            }
            for (int side = SIDES * a; side < SIDES * a + SIDES; side++) {
                if (beyond.at(side) == b) {
                    return side;
                }
            }
            return NONE;
        }

        void putDrain(int cell, boolean drain) {
            drains = drain ? drains | bit(cell) : drains & ~bit(cell);
        }

        void putGate(int a, int b, int height) {
            gates.put(sideTo(a, b), height);
            gates.put(sideTo(b, a), height);
        }

        void scatter(int seed, int highest) {
            long s = seed;
            int kinds = highest + 1;
            for (int cell = 0; cell < cells && kinds > 0; cell++) {
                s = (1103515245L * s + 12345L) % 2147483648L;
                heights.put(cell, (int) (s / 65536L % kinds));
            }
        }

        /** Brings thresholds and order up to date after a change. */
        void measure() {
            for (int side = 0; side < SIDES * cells; side++) {
                int next = beyond.at(side);
                int higher = Math.max(heights.at(side / SIDES), heights.at(next));
                thresholds.put(side, next == NONE ? HIGHEST + 1 : Math.max(higher, gates.at(side)));
            }
            for (int cell = 0; cell < cells; cell++) {
                int place = cell;
                for (; place > 0 && heights.at(order.at(place - 1)) > heights.at(cell); place--) {
                    order.put(place, order.at(place - 1));
                }
                order.put(place, cell);
            }
        }

        int heightSum(long set) {
            int sum = 0;
            for (int cell = 0; cell < cells; cell++) {
                sum += has(set, cell) ? heights.at(cell) : 0;
            }
            return sum;
        }
    }

    /** The plains, the ways between them, and the basins that follow from these. */
    private static final class Ways {
        private int basinCount;
        private final SetRow plains = new SetRow(MOST_CELLS);
        /** For each cell the one to which the way of its plain leads. */
        private final NumberRow targets = new NumberRow(MOST_CELLS);
        private final NumberRow basins = new NumberRow(MOST_CELLS);

        void copyFrom(Ways other) {
            basinCount = other.basinCount;
            plains.copyFrom(other.plains);
            targets.copyFrom(other.targets);
            basins.copyFrom(other.basins);
        }

        void find(Ground ground) {
            plains.fill(0L);
            for (int cell = 0; cell < ground.cells; cell++) {
                if (plains.at(cell) == 0L) {
                    long plain = plainAround(ground, cell);
                    markPlain(plain, targetOf(ground, plain));
                }
            }
            numberPits(ground);
            for (int cell = 0; cell < ground.cells; cell++) {
                basins.put(cell, basins.at(endOf(cell)));
            }
        }

        private static long plainAround(Ground ground, int start) {
            long plain = bit(start);
            long open = plain;
            for (int step = 0; step < MOST_CELLS && open != 0L; step++) {
                int cell = lowestIn(open);
                int height = ground.heights.at(cell);
                open &= ~bit(cell);
                for (int side = SIDES * cell; side < SIDES * cell + SIDES; side++) {
                    int next = ground.beyond.at(side);
                    if (ground.thresholds.at(side) == height && ground.heights.at(next) == height
                            && !has(plain, next)) {
                        plain |= bit(next);
                        open |= bit(next);
                    }
                }
            }
            return plain;
        }

        private void markPlain(long plain, int target) {
            for (int cell = 0; cell < MOST_CELLS; cell++) {
                if (has(plain, cell)) {
                    plains.put(cell, plain);
                    targets.put(cell, target);
                }
            }
        }

        private static int targetOf(Ground ground, long plain) {
            if ((plain & ground.drains) != 0L) {
                return NONE;
            }
            int target = NONE;
            for (int cell = 0; cell < ground.cells && target == NONE; cell++) {
                if (has(plain, cell)) {
                    target = lowerNeighbor(ground, cell);
                }
            }
            return target;
        }

        private static int lowerNeighbor(Ground ground, int cell) {
            int found = NONE;
            int height = ground.heights.at(cell);
            int lowest = height;
            for (int side = SIDES * cell; side < SIDES * cell + SIDES; side++) {
                int next = ground.beyond.at(side);
                if (ground.thresholds.at(side) == height && ground.heights.at(next) < lowest) {
                    found = next;
                    lowest = ground.heights.at(next);
                }
            }
            return found;
        }

        /** Gives the cells of each pit its basin; all others have none yet. */
        private void numberPits(Ground ground) {
            basinCount = 0;
            basins.fill(NONE);
            for (int cell = 0; cell < ground.cells; cell++) {
                long plain = plains.at(cell);
                if (targets.at(cell) == NONE && (plain & ground.drains) == 0L) {
                    int lowest = lowestIn(plain);
                    basins.put(cell, lowest == cell ? basinCount : basins.at(lowest));
                    basinCount += lowest == cell ? 1 : 0;
                }
            }
        }

        private int endOf(int start) {
            int cell = start;
            for (int step = 0; step < MOST_CELLS && targets.at(cell) != NONE; step++) {
                cell = targets.at(cell);
            }
            return cell;
        }

        boolean isInPit(int cell) {
            return targets.at(cell) == NONE && basins.at(cell) != NONE;
        }

        long courseFrom(int start) {
            long course = 0L;
            int cell = start;
            for (int step = 0; step < MOST_CELLS && cell != NONE; step++) {
                course |= plains.at(cell);
                cell = targets.at(cell);
            }
            return course;
        }
    }

    /**
     * The lakes, each at a place of its own: the basins first, then the joined ones. The parts of a
     * joined lake keep their places, so that they are there again when it parts; a free place has no cells.
     */
    private static final class Lakes {
        private final SetRow cells = new SetRow(MOST_LAKES);
        private final NumberRow volumes = new NumberRow(MOST_LAKES);
        private final NumberRow capacities = new NumberRow(MOST_LAKES);
        /** The side of the cell a of the pass that leads to its cell b. */
        private final NumberRow passes = new NumberRow(MOST_LAKES);
        private final NumberRow lowestVolumes = new NumberRow(MOST_LAKES);
        private final NumberRow basinCounts = new NumberRow(MOST_LAKES);
        /** Of the two parts of a joined lake the one with the lower lowest cell, and the other one. */
        private final NumberRow firsts = new NumberRow(MOST_LAKES);
        private final NumberRow seconds = new NumberRow(MOST_LAKES);
        private final NumberRow lakeOf = new NumberRow(MOST_CELLS);
        private final NumberRow pendingLakes = new NumberRow(MOST_LAKES);
        private final NumberRow pendingAmounts = new NumberRow(MOST_LAKES);

        void copyFrom(Lakes other) {
            cells.copyFrom(other.cells);
            volumes.copyFrom(other.volumes);
            capacities.copyFrom(other.capacities);
            passes.copyFrom(other.passes);
            lowestVolumes.copyFrom(other.lowestVolumes);
            basinCounts.copyFrom(other.basinCounts);
            firsts.copyFrom(other.firsts);
            seconds.copyFrom(other.seconds);
            lakeOf.copyFrom(other.lakeOf);
        }

        void restart(Ground ground, Ways ways) {
            cells.fill(0L);
            lakeOf.copyFrom(ways.basins);
            for (int cell = 0; cell < ground.cells; cell++) {
                int place = lakeOf.at(cell);
                cells.put(place, cells.at(place) | bit(cell));
            }
            for (int place = 0; place < ways.basinCount; place++) {
                volumes.put(place, 0);
                lowestVolumes.put(place, 0);
                basinCounts.put(place, 1);
                firsts.put(place, NONE);
                seconds.put(place, NONE);
                findPass(ground, place);
                findCapacity(ground, place);
            }
        }

        private void findPass(Ground ground, int place) {
            long inside = cells.at(place);
            int pass = NONE;
            for (int side = 0; side < SIDES * ground.cells; side++) {
                int next = ground.beyond.at(side);
                if (has(inside, side / SIDES) && next != NONE && !has(inside, next)
                        && (pass == NONE || ground.thresholds.at(side) < ground.thresholds.at(pass))) {
                    pass = side;
                }
            }
            passes.put(place, pass);
        }

        private void findCapacity(Ground ground, int place) {
            int pass = passes.at(place);
            int sum = 0;
            for (int cell = 0; cell < ground.cells; cell++) {
                int room = ground.thresholds.at(pass) - ground.heights.at(cell);
                sum += has(cells.at(place), cell) && room > 0 ? room : 0;
            }
            capacities.put(place, pass == NONE ? NONE : sum);
        }

        // A lake is numbered where its lowest cell is.
        private boolean isLowestOfLake(int cell) {
            int place = lakeOf.at(cell);
            return place != NONE && lowestIn(cells.at(place)) == cell;
        }

        /** Returns the place of the lake with this number, NONE if there is none. */
        int placeOf(int number) {
            int left = number;
            for (int cell = 0; cell < MOST_CELLS; cell++) {
                if (isLowestOfLake(cell)) {
                    if (left == 0) {
                        return lakeOf.at(cell);
                    }
                    left--;
                }
            }
            return NONE;
        }

        int numberAt(int cell) {
            int place = lakeOf.at(cell);
            if (place == NONE) {
                return NONE;
            }
            int lowest = lowestIn(cells.at(place));
            int number = 0;
            for (int other = 0; other < lowest; other++) {
                number += isLowestOfLake(other) ? 1 : 0;
            }
            return number;
        }

        int total() {
            int total = 0;
            for (int cell = 0; cell < MOST_CELLS; cell++) {
                total += isLowestOfLake(cell) ? 1 : 0;
            }
            return total;
        }

        int fullTotal() {
            int total = 0;
            for (int cell = 0; cell < MOST_CELLS; cell++) {
                total += isLowestOfLake(cell) && isFull(lakeOf.at(cell)) ? 1 : 0;
            }
            return total;
        }

        int water() {
            int sum = 0;
            for (int cell = 0; cell < MOST_CELLS; cell++) {
                sum += isLowestOfLake(cell) ? volumes.at(lakeOf.at(cell)) : 0;
            }
            return sum;
        }

        private boolean isFull(int place) {
            return passes.at(place) != NONE && volumes.at(place) == capacities.at(place);
        }

        int lowestPlace(Ground ground, int place) {
            for (int i = 0; i < ground.cells; i++) {
                if (has(cells.at(place), ground.order.at(i))) {
                    return ground.order.at(i);
                }
            }
            return NONE;
        }

        /** Goes from the lowest cells up: a cell is wet if the volume is more than what fits below it. */
        long wetCells(Ground ground, int place) {
            long inside = cells.at(place);
            long wet = 0L;
            int count = 0;
            int sum = 0;
            for (int i = 0; i < ground.cells; i++) {
                int cell = ground.order.at(i);
                int height = ground.heights.at(cell);
                if (has(inside, cell) && count * height - sum < volumes.at(place)) {
                    wet |= bit(cell);
                    count++;
                    sum += height;
                }
            }
            return wet;
        }

        /** Returns what is lost. */
        int pourInto(Ground ground, int start, int amount) {
            int place = start;
            int left = amount;
            for (int flow = 0; flow < MOST_FLOWS && left > 0; flow++) {
                left -= fill(place, left);
                if (left > 0) {
                    int pass = passes.at(place);
                    int next = lakeOf.at(ground.beyond.at(pass));
                    if (next == NONE) {
                        return left;
                    }
                    boolean meet = isFull(next)
                            && ground.thresholds.at(passes.at(next)) == ground.thresholds.at(pass);
                    place = meet ? join(ground, place, next) : next;
                }
            }
            return 0;
        }

        /** Returns how much the lake has taken up. */
        private int fill(int place, int amount) {
            int volume = volumes.at(place);
            int added = passes.at(place) == NONE ? amount : Math.min(amount, capacities.at(place) - volume);
            volumes.put(place, volume + added);
            return added;
        }

        private int join(Ground ground, int one, int other) {
            int joined = freePlace();
            boolean inOrder = lowestIn(cells.at(one)) < lowestIn(cells.at(other));
            firsts.put(joined, inOrder ? one : other);
            seconds.put(joined, inOrder ? other : one);
            cells.put(joined, cells.at(one) | cells.at(other));
            volumes.put(joined, volumes.at(one) + volumes.at(other));
            lowestVolumes.put(joined, capacities.at(one) + capacities.at(other));
            basinCounts.put(joined, basinCounts.at(one) + basinCounts.at(other));
            findPass(ground, joined);
            findCapacity(ground, joined);
            claimCells(joined);
            return joined;
        }

        private int freePlace() {
            for (int place = 0; place < MOST_LAKES; place++) {
                if (cells.at(place) == 0L) {
                    return place;
                }
            }
            return NONE;
        }

        private void claimCells(int place) {
            for (int cell = 0; cell < MOST_CELLS; cell++) {
                if (has(cells.at(place), cell)) {
                    lakeOf.put(cell, place);
                }
            }
        }

        /** Takes an amount, at most the volume, from a lake. */
        void draw(int start, int amount) {
            pendingLakes.put(0, start);
            pendingAmounts.put(0, amount);
            int pending = 1;
            // Each step settles another lake of the forest.
            for (int step = 0; step < MOST_LAKES && pending > 0; step++) {
                pending--;
                int place = pendingLakes.at(pending);
                int remains = volumes.at(place) - pendingAmounts.at(pending);
                int fromParts = lowestVolumes.at(place) - remains;
                if (fromParts > 0) {
                    partLake(place);
                    int fromFirst = Math.min(fromParts, volumes.at(firsts.at(place)));
                    pendingLakes.put(pending, firsts.at(place));
                    pendingAmounts.put(pending, fromFirst);
                    pendingLakes.put(pending + 1, seconds.at(place));
                    pendingAmounts.put(pending + 1, fromParts - fromFirst);
                    pending += 2;
                } else {
                    volumes.put(place, remains);
                }
            }
        }

        private void partLake(int place) {
            int first = firsts.at(place);
            int second = seconds.at(place);
            volumes.put(first, capacities.at(first));
            volumes.put(second, capacities.at(second));
            claimCells(first);
            claimCells(second);
            cells.put(place, 0L);
        }
    }

    /** All that a saved state contains. */
    private static final class World {
        private final Ground ground = new Ground();
        private final Ways ways = new Ways();
        private final Lakes lakes = new Lakes();
        private long poured;
        private long lost;
        private long evaporated;
        /** Lakes of a moment ago: what to do with each amount, and where. */
        private final NumberRow notedPlaces = new NumberRow(MOST_CELLS);
        private final NumberRow notedAmounts = new NumberRow(MOST_CELLS);
        private int noted;

        void copyFrom(World other) {
            ground.copyFrom(other.ground);
            ways.copyFrom(other.ways);
            lakes.copyFrom(other.lakes);
            poured = other.poured;
            lost = other.lost;
            evaporated = other.evaporated;
        }

        void restart() {
            poured = 0L;
            lost = 0L;
            evaporated = 0L;
            findAnew();
        }

        private void findAnew() {
            ground.measure();
            ways.find(ground);
            lakes.restart(ground, ways);
        }

        /** To be called before the landscape changes; renew() then pours the water anew. */
        void noteLakes() {
            noted = lakes.total();
            for (int number = 0; number < noted; number++) {
                int place = lakes.placeOf(number);
                notedPlaces.put(number, lakes.lowestPlace(ground, place));
                notedAmounts.put(number, lakes.volumes.at(place));
            }
        }

        void renew() {
            findAnew();
            for (int number = 0; number < noted; number++) {
                pourAt(notedPlaces.at(number), notedAmounts.at(number));
            }
        }

        /** Returns what is lost. */
        int pourAt(int cell, int amount) {
            int place = lakes.lakeOf.at(cell);
            int gone = place == NONE ? amount : lakes.pourInto(ground, place, amount);
            lost += gone;
            return gone;
        }

        /** Returns what is lost. */
        int pourAtAll(int amount) {
            int gone = 0;
            for (int cell = 0; cell < ground.cells; cell++) {
                gone += pourAt(cell, amount);
            }
            return gone;
        }

        /** Returns what has evaporated. */
        int dry(int rounds) {
            int gone = 0;
            for (int round = 0; round < rounds; round++) {
                gone += dryOnce();
            }
            evaporated += gone;
            return gone;
        }

        // Lakes that part in a round are not of its beginning, so all are noted before any is drawn from.
        private int dryOnce() {
            noted = lakes.total();
            int gone = 0;
            for (int number = 0; number < noted; number++) {
                int place = lakes.placeOf(number);
                int wet = Long.bitCount(lakes.wetCells(ground, place));
                notedPlaces.put(number, place);
                notedAmounts.put(number, Math.min(wet, lakes.volumes.at(place)));
            }
            for (int number = 0; number < noted; number++) {
                lakes.draw(notedPlaces.at(number), notedAmounts.at(number));
                gone += notedAmounts.at(number);
            }
            return gone;
        }

        boolean isWet(int cell) {
            return has(lakes.wetCells(ground, lakes.lakeOf.at(cell)), cell);
        }

        int wetTotal() {
            int total = 0;
            for (int cell = 0; cell < ground.cells; cell++) {
                total += isWet(cell) ? 1 : 0;
            }
            return total;
        }

        int seaTotal() {
            int total = 0;
            for (int cell = 0; cell < ground.cells; cell++) {
                total += ways.basins.at(cell) == NONE ? 1 : 0;
            }
            return total;
        }
    }

    /** The landscape text; reading goes on until the first fault, and stands still from there. */
    private static final class LandscapeText {
        private final NumberRow bytes = new NumberRow(MOST_TEXT);
        private int length;
        private int place;
        private int fault;

        void add(int value) {
            bytes.put(length, value);
            length++;
        }

        /** Returns the syntax error position, NONE if there is no error. */
        int readInto(Ground ground) {
            place = 0;
            fault = NONE;
            int columns = readSize(MOST_COLUMNS);
            int rows = readSize(MOST_ROWS);
            readSign(':');
            if (fault == NONE) {
                ground.lay(columns, rows);
                readHeights(ground);
            }
            for (int item = 0; item < MOST_TEXT && fault == NONE && place < length; item++) {
                readSign(';');
                boolean drain = next() == 'd';
                readSign(drain ? 'd' : 'g');
                if (drain) {
                    readDrain(ground);
                } else {
                    readGate(ground);
                }
            }
            return fault;
        }

        private int next() {
            return place < length ? bytes.at(place) : NONE;
        }

        private boolean isAtDigit() {
            return next() >= '0' && next() <= '9';
        }

        private void readSign(int sign) {
            if (fault == NONE && next() == sign) {
                place++;
            } else {
                fail(place);
            }
        }

        private void fail(int position) {
            fault = fault == NONE ? position : fault;
        }

        private int readSize(int most) {
            int size = next() - '0';
            if (fault == NONE && size >= 1 && size <= most) {
                place++;
            } else {
                fail(place);
            }
            return size;
        }

        private int readNumber() {
            int value = 0;
            if (!isAtDigit()) {
                fail(place);
            }
            for (int digit = 0; digit < 2 && fault == NONE && isAtDigit(); digit++) {
                value = 10 * value + next() - '0';
                place++;
            }
            if (isAtDigit()) {
                fail(place);
            }
            return value;
        }

        private void readHeights(Ground ground) {
            for (int cell = 0; cell < ground.cells; cell++) {
                if (cell > 0) {
                    readSign(',');
                }
                ground.heights.put(cell, readNumber());
            }
        }

        private void readDrain(Ground ground) {
            int first = place;
            int cell = readNumber();
            if (!ground.exists(cell)) {
                fail(first);
            }
            if (fault == NONE) {
                ground.putDrain(cell, true);
            }
        }

        private void readGate(Ground ground) {
            int first = place;
            int a = readNumber();
            if (!ground.exists(a)) {
                fail(first);
            }
            readSign(',');
            int second = place;
            int b = readNumber();
            if (ground.sideTo(a, b) == NONE) {
                fail(second);
            }
            readSign(',');
            int height = readNumber();
            if (fault == NONE) {
                ground.putGate(a, b, height);
            }
        }
    }
}
