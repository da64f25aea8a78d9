/** The sentences of the document's description, each at the edges that it names. */
public final class DescriptionTest {
    private static final Class<IndexOutOfBoundsException> NO_SUCH = IndexOutOfBoundsException.class;
    private static final int NONE = LakeLevels.NONE;

    private DescriptionTest() {
    }

    public static void main(String[] args) {
        initially();
        neighbors();
        heightsAndGates();
        nothingLeaves();
        setsOfCells();
        thresholds();
        waterRuns();
        plains();
        sea();
        waysLead();
        numbers();
        basinsAndLakes();
        passes();
        capacities();
        fullLakes();
        overflow();
        joining();
        pouringAtCells();
        taking();
        takingInTurn();
        levels();
        levelsAfterChanges();
        wetCells();
        deepestCells();
        changesPourAnew();
        changesKeepTheOrder();
        changesAsPouring();
        rainInOrder();
        lostByThisCall();
        balance();
        evaporation();
        whatIf();
        rainToJoin();
        withoutGate();
        Check.end();
    }

    private static void dueBasins(String text, int... basins) {
        LakeLevels x = Made.of(text);
        for (int cell = 0; cell < basins.length; cell++) {
            Check.due(text + ": basin of " + cell, x.cell(cell, 2), basins[cell]);
        }
    }

    private static void dueVolumes(String what, LakeLevels x, int... volumes) {
        Check.due(what + ": lakes", x.count(3), volumes.length);
        for (int lake = 0; lake < volumes.length && lake < x.count(3); lake++) {
            Check.due(what + ": volume of lake " + lake, x.lake(lake, 0), volumes[lake]);
        }
    }

    private static void dueLake(String what, LakeLevels x, int lake, int... values) {
        for (int i = 0; i < values.length; i++) {
            Check.due(what + ": lake(" + lake + ", " + i + ")", x.lake(lake, i), values[i]);
        }
    }

    private static void dueBalance(String what, LakeLevels x, int... parts) {
        for (int i = 0; i < parts.length; i++) {
            Check.due(what + ": balance(" + i + ")", x.balance(i), parts[i]);
        }
    }

    // ---- landscape

    /** "w columns and h rows, each 1 to 6, initially 1 and 1", "initially 0", "initially none is". */
    private static void initially() {
        for (LakeLevels x : new LakeLevels[] {new LakeLevels(), Made.land(1, 1)}) {
            int[] counts = {1, 1, 1, 1, 0, 0, 0};
            for (int what = 0; what < counts.length; what++) {
                Check.due("initially: count(" + what + ")", x.count(what), counts[what]);
            }
            int[] cell = {0, 0, 0, 0, 0, 1};
            for (int what = 0; what < cell.length; what++) {
                Check.due("initially: cell(0, " + what + ")", x.cell(0, what), cell[what]);
            }
            dueLake("initially", x, 0, 0, NONE, 0, 1, 0, 1, NONE, NONE, NONE, 0);
            dueBalance("initially", x, 0, 0, 0, 0);
            Check.due("initially: depth", x.depth(0), 0.0);
            Check.due("initially: deepest()", x.deepest(), NONE);
            Check.due("initially: no text", x.parse(), -10);
            Check.dueThrow("initially: one cell", NO_SUCH, () -> x.cell(1, 0));
        }
        LakeLevels wide = Made.land(6, 6);
        for (int cell = 0; cell < 36; cell++) {
            Check.due("begin: height " + cell, wide.cell(cell, 0), 0);
            Check.due("begin: drain " + cell, wide.cell(cell, 1), 0);
        }
        Check.dueThrow("36 cells", NO_SUCH, () -> wide.cell(36, 0));
    }

    /** "Cell w * r + c is in row r and column c; cells are neighbors if they are next to each other". */
    private static void neighbors() {
        int[][] sizes = {{1, 1}, {1, 6}, {6, 1}, {2, 2}, {3, 2}, {5, 6}, {6, 6}};
        for (int[] size : sizes) {
            int cells = size[0] * size[1];
            for (int a = 0; a < cells; a++) {
                LakeLevels x = Made.land(size[0], size[1]);
                for (int b = -1; b <= cells; b++) {
                    int columns = Math.abs(a % size[0] - b % size[0]);
                    int rows = Math.abs(a / size[0] - b / size[0]);
                    boolean near = b >= 0 && b < cells && columns + rows == 1;
                    Check.due(size[0] + " columns: " + a + " and " + b, isNeighbor(x, a, b) ? 1 : 0, near ? 1 : 0);
                }
            }
        }
    }

    private static boolean isNeighbor(LakeLevels x, int a, int b) {
        try {
            return x.between(a, b, false) == NONE;
        } catch (IndexOutOfBoundsException e) {
            return false;
        }
    }

    /** "a height, 0 to 99", "a gate, with a height from 0 to 99": the highest ones hold water up to 99. */
    private static void heightsAndGates() {
        LakeLevels ridge = Made.of("31:0,99,0");
        dueLake("a ridge of 99", ridge, 0, 0, 99, 0, 2, 0, 1, 99, 1, 2, 0);
        LakeLevels gate = Made.of("21:0,0;g0,1,99");
        dueLake("a gate of 99", gate, 1, 0, 99, 1, 1, 0, 1, 99, 1, 0, 0);
        LakeLevels even = Made.of("21:99,99;g0,1,99");
        dueLake("a gate on the highest plain", even, 0, 0, NONE, 0, 2, 0, 1, NONE, NONE, NONE, 0);
        LakeLevels low = Made.of("21:0,0;g0,1,0");
        Check.due("a gate of 0 is there", low.between(0, 1, false), 0);
        Check.due("a gate of 0 parts nothing", low.count(2), 1);
        Check.due("a gate of 1 does", Made.of("21:0,0;g0,1,1").count(2), 2);
    }

    /** "Nothing leaves the landscape but through drains." */
    private static void nothingLeaves() {
        LakeLevels x = Made.land(6, 6);
        Check.due("at a corner", x.pour(0, 100000) + x.pour(35, 100000), 0);
        Check.due("rain", x.rain(1000), 0);
        dueBalance("no drain", x, 236000, 236000, 0, 0);
        x.setDrain(35, true);
        dueBalance("a drain", x, 236000, 0, 236000, 0);
    }

    /** "bit i stands for cell i" */
    private static void setsOfCells() {
        LakeLevels x = Made.land(6, 6);
        Check.dueBits("all cells", x.course(17), 0xFFFFFFFFFL);
        x.setGate(29, 35, 1);
        x.setGate(34, 35, 1);
        Check.dueBits("the last cell", x.course(35), 1L << 35);
        Check.dueBits("all others", x.course(0), 0x7FFFFFFFFL);
        Check.dueBits("the lake of the last cell", x.lakeCells(1), 1L << 35);
    }

    // ---- ways

    /** "the greatest of both heights and of the height of the gate between them, if there is one" */
    private static void thresholds() {
        int[][] due = {{3, 5, NONE, 5}, {5, 3, NONE, 5}, {3, 5, 0, 5}, {3, 5, 4, 5}, {3, 5, 5, 5}, {3, 5, 6, 6},
            {4, 4, NONE, 4}, {0, 0, NONE, 0}, {0, 0, 0, 0}, {0, 0, 1, 1}, {99, 99, 99, 99}, {0, 99, 98, 99}, {0, 0, 99, 99}};
        for (int[] row : due) {
            LakeLevels x = Made.land(2, 1);
            x.setHeight(0, row[0]);
            x.setHeight(1, row[1]);
            x.setGate(0, 1, row[2]);
            String what = "threshold of " + row[0] + ", " + row[1] + ", gate " + row[2];
            Check.due(what, x.between(0, 1, true), row[3]);
            Check.due(what + ", other way round", x.between(1, 0, true), row[3]);
        }
    }

    /** "Water can run from a cell to a neighbor if their threshold is the height of the cell." */
    private static void waterRuns() {
        String[] runs = {"21:5,4", "21:5,0", "21:5,5", "21:5,4;g0,1,5", "21:5,4;g0,1,4", "21:5,5;g0,1,5", "21:5,5;g0,1,0"};
        for (String text : runs) {
            Check.dueBits("water runs in " + text, Made.of(text).course(0), 3L);
        }
        for (int height = 1; height <= 99; height++) {
            String text = "21:" + height + "," + (height - 1);
            Check.dueBits("water runs in " + text, Made.of(text).course(0), 3L);
            Check.dueBits("water does not run up in " + text, Made.of(text).course(1), 2L);
        }
        for (String text : new String[] {"21:5,6", "21:5,4;g0,1,6", "21:5,5;g0,1,6", "21:5,6;g0,1,6", "21:5,6;g0,1,0"}) {
            Check.dueBits("water does not run in " + text, Made.of(text).course(0), 1L);
        }
    }

    /** "a largest set of cells of equal height that are connected by neighbors between which water can run" */
    private static void plains() {
        Check.dueBits("aslant is not connected", Made.of("22:1,9,9,1").course(0), 1L);
        Check.dueBits("round a gate", Made.of("22:0,0,0,0;g0,1,9").course(0), 15L);
        Check.dueBits("a gate across", Made.of("22:0,0,0,0;g0,1,9;g2,3,9").course(0), 5L);
        Check.dueBits("the end of a row is not next to the next row", Made.of("32:1,9,1,1,9,9").course(2), 4L);
        Check.dueBits("a lower cell between", Made.of("31:5,4,5").course(0), 3L);
        Check.dueBits("a winding plain", Made.of("33:1,1,1,9,9,1,1,1,1").course(6), 0b111100111L);
        for (int cell = 0; cell < 3; cell++) {
            Check.due("all cells of a pit lie in it: " + cell, Made.of("41:2,2,2,3").cell(cell, 5), 1);
        }
        Check.due("a slope does not", Made.of("41:2,2,2,3").cell(3, 5), 0);
    }

    /** "If a plain contains a drain, it belongs to the sea." Otherwise it belongs to what its way leads to. */
    private static void sea() {
        dueBasins("41:5,5,0,9;d0", NONE, NONE, 0, 0);
        dueBasins("41:5,5,0,9;d1", NONE, NONE, 0, 0);
        dueBasins("41:5,5,0,9;d2", NONE, NONE, NONE, NONE);
        dueBasins("41:5,5,0,9;d3", 0, 0, 0, NONE);
        Check.due("a drain's plain is no pit", Made.of("21:0,0;d1").cell(0, 5), 0);
        Check.dueBits("the course ends with the drain's plain", Made.of("41:5,5,0,9;d0").course(1), 3L);
        LakeLevels x = Made.of("66:" + "0,".repeat(35) + "0;d35");
        Check.due("all belong to the sea", x.count(5), 36);
        Check.due("no basins", x.count(2), 0);
        Check.due("no lakes", x.count(3), 0);
        Check.due("all is lost", x.pour(0, 100000), 100000);
    }

    /** "the lowest such cell (by its number)", "the smallest height", "the lowest number", "among those ..". */
    private static void waysLead() {
        dueBasins("41:2,5,5,0", 0, 0, 0, 1);
        dueBasins("41:0,5,5,2", 0, 0, 0, 1);
        dueBasins("41:5,5,5,2", 0, 0, 0, 0);
        dueBasins("32:3,1,9,5,5,9;g0,1,9", 0, 1, 1, 0, 0, 1);
        String[] gates = {"", ";g3,4,6", ";g3,4,6;g4,5,6", ";g3,4,6;g4,5,6;g1,4,6", ";g3,4,5"};
        int[] ends = {3, 5, 1, 7, 3};
        for (int i = 0; i < gates.length; i++) {
            LakeLevels x = Made.of("33:9,2,9,1,5,1,9,2,9" + gates[i]);
            Check.dueBits("the way from the middle" + gates[i], x.course(4), 1L << 4 | 1L << ends[i]);
        }
        LakeLevels closed = Made.of("33:9,2,9,1,5,1,9,2,9;g3,4,6;g4,5,6;g1,4,6;g4,7,6");
        Check.due("no way is left: a pit", closed.cell(4, 5), 1);
        LakeLevels slope = Made.of("61:9,7,5,3,1,0");
        for (int cell = 0; cell < 6; cell++) {
            Check.dueBits("down the slope from " + cell, slope.course(cell), 63L >> cell << cell);
        }
    }

    /** Basins "in the order of the lowest cells of their pits", lakes "in the order of their lowest cells". */
    private static void numbers() {
        LakeLevels x = Made.of("23:5,3,1,9,0,9");
        int[] basins = {1, 0, 1, 1, 1, 1};
        for (int cell = 0; cell < 6; cell++) {
            Check.due("basin of " + cell, x.cell(cell, 2), basins[cell]);
            Check.due("lake of " + cell, x.cell(cell, 3), 1 - basins[cell]);
        }
        Check.dueBits("lake 0", x.lakeCells(0), 0b111101L);
        Check.dueBits("lake 1", x.lakeCells(1), 0b000010L);
        Check.due("lake 0 has its lowest cell by number", x.lake(0, 2), 0);
        x.pour(1, 2);
        dueVolumes("poured into basin 0, which is lake 1", x, 0, 2);
        LakeLevels apart = Made.of("61:9,0,5,5,0,9;d5");
        int[] lakes = {0, 0, 0, 0, 1, NONE};
        for (int cell = 0; cell < 6; cell++) {
            Check.due("the lake of " + cell, apart.cell(cell, 3), lakes[cell]);
        }
        LakeLevels last = Made.of("61:5,5,5,5,9,0;d0");
        Check.due("the lake of the last cell", last.cell(5, 3), 0);
        Check.due("its lowest cell", last.lake(0, 2), 4);
    }

    // ---- lakes

    /** "Each pit is a basin", "each basin is in exactly one lake", "Initially .. each basin is a lake." */
    private static void basinsAndLakes() {
        LakeLevels x = Made.of(Made.TWO_RIDGES);
        Check.due("three basins", x.count(2), 3);
        Check.due("three lakes", x.count(3), 3);
        x.pour(4, 16);
        Check.due("joined: three basins", x.count(2), 3);
        Check.due("joined: one lake", x.count(3), 1);
        Check.due("joined: its basins", x.lake(0, 5), 3);
        x.setGate(0, 1, 0);
        Check.due("found anew: three basins", x.count(2), 3);
        x.parse();
        Check.due("parsed anew: three lakes", x.count(3), 3);
    }

    /** "the smallest threshold, of several the one with the lowest a, then the lowest b", or none. */
    private static void passes() {
        String square = "33:9,9,9,9,0,9,9,9,9;d0;d2;d6;d8";
        dueLake("the lowest b", Made.of(square), 0, 0, 9, 4, 1, 0, 1, 9, 4, 1);
        dueLake("a smaller threshold later", Made.of(square.replace("0,9,9", "0,8,9") + ";d5"), 0, 0, 8, 4, 1, 0, 1, 8, 4, 5);
        dueLake("gates raise the others", Made.of(square + ";g1,4,11;g3,4,10;g4,5,10;g4,7,12"),
                0, 0, 10, 4, 1, 0, 1, 10, 4, 3);
        dueLake("the lowest a", Made.of("51:9,3,2,3,9;d0;d4"), 0, 0, 6 + 7 + 6, 1, 3, 0, 1, 9, 1, 0);
        dueLake("without a pass", Made.of("51:9,3,2,3,9"), 0, 0, NONE, 0, 5, 0, 1, NONE, NONE, NONE);
        dueLake("one cell", new LakeLevels(), 0, 0, NONE, 0, 1, 0, 1, NONE, NONE, NONE);
    }

    /** "over its cells with a height below this threshold", "without a pass it is without limit" */
    private static void capacities() {
        Check.due("a cell above the pass", Made.of("41:9,0,5,0").lake(0, 1), 5);
        Check.due("a cell as high as the pass", Made.of(Made.RIDGE).lake(0, 1), 5);
        Check.due("a cell just below the pass", Made.of("41:4,0,5,0").lake(0, 1), 6);
        Check.due("the greatest", Made.of("66:" + "0,".repeat(35) + "99;d35").lake(0, 1), 35 * 99);
        LakeLevels x = new LakeLevels();
        x.pour(0, 100000);
        Check.due("without limit", x.lake(0, 1), NONE);
        Check.due("joined ones have one of their own", joined().lake(0, 1), NONE);
    }

    private static LakeLevels joined() {
        LakeLevels x = Made.of(Made.RIDGE);
        x.pour(0, 5);
        x.pour(2, 6);
        return x;
    }

    /** "A lake is full if its volume is its capacity." */
    private static void fullLakes() {
        LakeLevels x = Made.of(Made.BOWL);
        int[] full = {0, 0, 0, 1, 1};
        for (int volume = 0; volume < full.length; volume++) {
            Check.due("full with " + volume + " poured", x.count(6), full[volume]);
            x.pour(0, 1);
        }
        x.take(0, 1);
        Check.due("one less", x.count(6), 0);
        Check.due("never without a pass, dry", new LakeLevels().count(6), 0);
        Check.due("never without a pass", Made.tank(1000000).count(6), 0);
    }

    /** "as much as possible is added .. up to its capacity. If something is left, it flows over the pass". */
    private static void overflow() {
        int[][] due = {{0, 0, 0}, {2, 2, 0}, {3, 3, 0}, {4, 3, 1}, {100000, 3, 99997}};
        for (int[] row : due) {
            LakeLevels x = Made.of(Made.BOWL);
            Check.due("lost of " + row[0], x.pour(0, row[0]), row[2]);
            dueVolumes("of " + row[0], x, row[1]);
            dueBalance("of " + row[0], x, row[0], row[1], row[2], 0);
        }
        LakeLevels far = Made.of(Made.RIDGE);
        far.pour(0, 5);
        dueVolumes("just full", far, 5, 0);
        far.pour(0, 1);
        dueVolumes("one more", far, 5, 1);
        LakeLevels steps = Made.of("51:9,0,5,0,3;d4");
        Check.due("full, with a lower pass: on and on", steps.pour(3, 3) + steps.pour(1, 6), 1);
        dueVolumes("not joined", steps, 5, 3);
    }

    /** "if the lake of b is full, and the threshold of its pass is that of this pass, both lakes are joined" */
    private static void joining() {
        LakeLevels nearly = Made.of(Made.RIDGE);
        nearly.pour(2, 4);
        nearly.pour(0, 6);
        dueVolumes("filled up, nothing left", nearly, 5, 5);
        nearly.undo();
        nearly.pour(0, 7);
        dueVolumes("filled up, then joined", nearly, 11);
        dueLake("joined", nearly, 0, 11, NONE, 0, 3, 3, 2, NONE, NONE, NONE, 10);

        LakeLevels elsewhere = Made.of(Made.TWO_RIDGES);
        elsewhere.pour(2, 5);
        elsewhere.pour(4, 6);
        dueVolumes("its pass may lead elsewhere", elsewhere, 1, 10);
        dueLake("full at once", elsewhere, 1, 10, 10, 2, 3, 2, 2, 5, 2, 1, 10);
        Check.due("full at once", elsewhere.count(6), 1);

        LakeLevels lower = Made.of("51:0,5,0,4,0");
        lower.pour(2, 4);
        lower.pour(0, 7);
        dueVolumes("a lower pass", lower, 5, 4, 2);
        LakeLevels gates = Made.of("31:0,0,0;g0,1,4;g1,2,4");
        gates.pour(0, 13);
        dueVolumes("over gates", gates, 13);
        Check.due("over gates: the lowest volume", gates.lake(0, 9), 12);
    }

    /** "at a cell that belongs to the sea the amount is lost" */
    private static void pouringAtCells() {
        LakeLevels x = Made.of("51:0,3,3,0,9;d2;d3");
        for (int cell = 0; cell < 5; cell++) {
            x.parse();
            Check.due("at cell " + cell, x.pour(cell, 7), cell == 0 ? 4 : 7);
            dueBalance("at cell " + cell, x, 7, cell == 0 ? 3 : 0, cell == 0 ? 4 : 7, 0);
        }
        LakeLevels both = joined();
        both.pour(1, 3);
        dueVolumes("at a ridge under water", both, 14);
    }

    // ---- taking

    /** "If its volume would become smaller, it parts" */
    private static void taking() {
        LakeLevels x = joined();
        x.pour(0, 2);
        x.take(0, 3);
        dueVolumes("down to the lowest volume", x, 10);
        x.take(0, 0);
        dueVolumes("nothing is taken at the lowest volume", x, 10);
        int[][] due = {{1, 4, 5}, {5, 0, 5}, {6, 0, 4}, {10, 0, 0}};
        for (int[] row : due) {
            x.take(0, row[0]);
            dueVolumes("taken " + row[0] + " at the lowest volume", x, row[1], row[2]);
            dueLake("parted", x, 0, row[1], 5, 0, 2, row[1] > 0 ? 1 : 0, 1, 5, 1, 2, 0);
            dueLake("parted", x, 1, row[2], 5, 2, 1, row[2] > 0 ? 1 : 0, 1, 5, 2, 1, 0);
            x.undo();
        }
        LakeLevels deep = joined();
        deep.pour(0, 5);
        deep.take(0, 7);
        dueVolumes("beyond the difference", deep, 4, 5);
        deep.pour(0, 2);
        dueVolumes("joined again", deep, 4 + 2 + 5);
        Check.due("joined again: the lowest volume", deep.lake(0, 9), 10);

        LakeLevels order = Made.of("23:5,3,1,9,0,9");
        order.pour(1, 3);
        order.pour(4, 15);
        dueVolumes("joined of two", order, 18);
        int lowest = order.lake(0, 9);
        order.take(0, 18 - lowest + 1);
        Check.due("taken from the one with the lower lowest cell by number", order.lake(0, 0), order.lake(0, 1) - 1);
        Check.due("the other one is full", order.lake(1, 0), order.lake(1, 1));
    }

    /** "then the rest from the other one (which can part in turn)" */
    private static void takingInTurn() {
        LakeLevels second = Made.of(Made.TWO_RIDGES);
        second.pour(2, 5);
        second.pour(4, 6);
        second.pour(0, 5);
        dueVolumes("all joined, the other part is joined too", second, 16);
        int[][] due = {{2, 4, 10, NONE}, {6, 0, 10, NONE}, {7, 0, 4, 5}, {11, 0, 0, 5}, {12, 0, 0, 4}, {16, 0, 0, 0}};
        for (int[] row : due) {
            Check.due("take(0, " + row[0] + ")", second.take(0, row[0]), row[3] == NONE ? 2 : 3);
            if (row[3] == NONE) {
                dueVolumes("taken " + row[0], second, row[1], row[2]);
            } else {
                dueVolumes("taken " + row[0], second, row[1], row[2], row[3]);
            }
            second.undo();
        }
        LakeLevels first = Made.of(Made.TWO_RIDGES);
        first.pour(4, 16);
        first.take(0, 2);
        dueVolumes("the first part parts too", first, 4, 5, 5);
        first.undo();
        first.take(0, 12);
        dueVolumes("the first part is emptied", first, 0, 0, 4);
        dueBalance("taken counts as evaporated", first, 16, 4, 0, 12);
        first.take(2, 1);
        dueVolumes("nothing more is taken then", first, 0, 0, 3);
        first.pour(4, 3);
        first.take(2, 0);
        dueVolumes("nor by taking nothing", first, 0, 1, 5);
        first.take(1, 1);
        first.take(2, 5);
        dueBalance("all is taken", first, 19, 0, 0, 19);
    }

    // ---- levels

    private static void dueLevel(String what, LakeLevels x, int top, int bottom) {
        Check.due(what + ": numerator", x.level(0, 0), top);
        Check.due(what + ": denominator", x.level(0, 1), bottom);
    }

    /** "over its cells with heights below L", "for a volume of 0 it is the height of its lowest cell" */
    private static void levels() {
        LakeLevels x = Made.of("41:7,3,4,9");
        int[][] due = {{0, 3, 1, 0}, {1, 4, 1, 1}, {2, 9, 2, 2}, {3, 5, 1, 2}, {4, 11, 2, 2}, {6, 13, 2, 2}, {7, 7, 1, 2},
            {8, 22, 3, 3}, {13, 9, 1, 3}, {14, 37, 4, 4}, {17, 10, 1, 4}, {100000, 100023, 4, 4}};
        for (int[] row : due) {
            x.parse();
            x.pour(0, row[0]);
            dueLevel("with " + row[0], x, row[1], row[2]);
            Check.due("wet cells with " + row[0], x.count(4), row[3]);
            Check.due("wet cells of the lake with " + row[0], x.lake(0, 4), row[3]);
        }
        LakeLevels high = new LakeLevels();
        high.setHeight(0, 99);
        dueLevel("dry at 99", high, 99, 1);
        dueLevel("the most water", Made.tank(1000000), 1000000, 1);
        LakeLevels wide = Made.land(6, 6);
        dueLevel("dry at 0", wide, 0, 1);
        wide.pour(0, 1);
        dueLevel("the greatest denominator", wide, 1, 36);
        wide.pour(0, 1);
        dueLevel("in lowest terms", wide, 1, 18);
        wide.pour(0, 34);
        dueLevel("a whole number", wide, 1, 1);
        dueLevel("joined ones", joined(), 16, 3);
    }

    /** "the number L for which the sum of (L - height) over its cells with heights below L is its volume" */
    private static void levelsAfterChanges() {
        for (int seed = 0; seed < 40; seed++) {
            LakeLevels x = Made.land(4, 3);
            x.random(seed, seed % 2 == 0 ? 99 : 6);
            for (int i = 0; i < 4; i++) {
                x.pour((5 * i + seed) % 12, 3 * i + seed % 10);
                x.setHeight((7 * i + seed) % 12, (5 * seed + 13 * i) % 7);
                dueLevels("seed " + seed + ", change " + i, x);
            }
        }
    }

    private static void dueLevels(String what, LakeLevels x) {
        int lakes = x.count(3);
        for (int lake = 0; lake < lakes; lake++) {
            int top = x.level(lake, 0);
            int bottom = x.level(lake, 1);
            int sum = 0;
            int lowest = 99;
            for (long left = x.lakeCells(lake); left != 0L; left &= left - 1L) {
                int height = x.cell(Long.numberOfTrailingZeros(left), 0);
                sum += Math.max(0, top - height * bottom);
                lowest = Math.min(lowest, height);
            }
            int volume = x.lake(lake, 0);
            Check.due(what + ": the sum in lake " + lake, sum, volume * bottom);
            Check.due(what + ": dry at " + lowest, volume == 0 ? top : lowest, lowest);
            boolean common = false;
            for (int divisor = 2; divisor <= bottom; divisor++) {
                common |= top % divisor == 0 && bottom % divisor == 0;
            }
            Check.due(what + ": in lowest terms", common || bottom < 1 ? 1 : 0, 0);
        }
    }

    /** "A cell is wet if its depth is above 0.", "a cell that belongs to the sea has the depth 0" */
    private static void wetCells() {
        LakeLevels x = Made.of("41:1,0,2,1;d3");
        double[][] due = {{0, 0.0, 0.0}, {1, 0.0, 1.0}, {2, 0.5, 1.5}, {3, 1.0, 2.0}, {4, 1.0, 2.0}};
        for (double[] row : due) {
            x.parse();
            x.pour(1, (int) row[0]);
            Check.due("depth(0) with " + row[0], x.depth(0), row[1]);
            Check.due("depth(1) with " + row[0], x.depth(1), row[2]);
            Check.due("as high as the level, or above it: with " + row[0], x.depth(2), 0.0);
            Check.due("the sea, with " + row[0], x.depth(3), 0.0);
            for (int cell = 0; cell < 4; cell++) {
                Check.due("wet with " + row[0] + ": " + cell, x.cell(cell, 4), x.depth(cell) > 0.0 ? 1 : 0);
            }
        }
        LakeLevels third = Made.land(3, 1);
        third.pour(0, 2);
        Check.due("in lowest terms", third.depth(1), 2.0 / 3.0);
        third.pour(0, 1);
        Check.due("a whole number", third.depth(1), 1.0);
        Check.due("the greatest depth", Made.tank(1000000).depth(0), 1000000.0);
    }

    /** "the deepest wet cell, of several the lowest one"; NONE if no cell is wet. */
    private static void deepestCells() {
        Check.due("dry", Made.of("21:0,5").deepest(), NONE);
        Check.due("water in the sea alone", Made.of("21:0,0;d0").pour(0, 5), 5);
        LakeLevels even = Made.land(6, 6);
        even.pour(35, 1);
        Check.due("all alike", even.deepest(), 0);
        LakeLevels close = Made.of("61:0,0,0,9,0,0;d3");
        close.pour(0, 2);
        close.pour(4, 1);
        Check.due("2/3 is deeper than 1/2", close.deepest(), 0);
        close.pour(4, 1);
        Check.due("1 is deeper than 2/3", close.deepest(), 4);
        close.pour(0, 1);
        Check.due("1 and 3/3", close.deepest(), 0);
    }

    // ---- changes, balance, evaporation

    /** "for each lake of before .. its volume is poured at its lowest place .. before the change" */
    private static void changesPourAnew() {
        LakeLevels x = Made.of("51:3,3,9,0,0");
        x.pour(0, 4);
        x.pour(3, 6);
        x.setHeight(1, 9);
        dueVolumes("of several the one with the lowest number", x, 4, 6);
        x.undo();
        x.setHeight(0, 9);
        Check.due("though it is higher now, its water runs from there", x.cell(0, 3), x.cell(1, 3));
        dueVolumes("from the ridge into cell 1", x, 4, 6);
        LakeLevels smallest = Made.of("51:2,1,9,9,0");
        smallest.pour(0, 3);
        smallest.setHeight(0, 0);
        dueVolumes("poured where it was lowest before", smallest, 3, 0);
        LakeLevels before = Made.of("31:1,2,3");
        before.pour(0, 1);
        before.setHeight(2, 0);
        dueVolumes("not poured where it is lowest behind the change", before, 1, 0);
        LakeLevels moved = Made.of("31:1,0,0;d2;g1,2,4");
        moved.pour(1, 3);
        moved.setGate(1, 2, NONE);
        dueBalance("it runs into the sea", moved, 3, 0, 3, 0);
        LakeLevels again = joined();
        again.take(0, 1);
        again.setDrain(1, false);
        dueVolumes("a change of nothing pours anew too", again, 5, 5);
        LakeLevels dry = Made.of(Made.BOWL);
        dry.setHeight(1, 0);
        dueBalance("no water", dry, 0, 0, 0, 0);
    }

    /** "in the order of their numbers": the other order would not join the last two. */
    private static void changesKeepTheOrder() {
        LakeLevels x = Made.of("51:0,5,0,9,0");
        x.pour(2, 5);
        x.pour(4, 7);
        x.setHeight(3, 5);
        dueVolumes("lake 1 first, then lake 2", x, 2, 10);
        LakeLevels random = Made.of(Made.TWO_RIDGES);
        random.pour(4, 14);
        random.random(7, 0);
        dueVolumes("random() pours anew, once", random, 14);
        dueBalance("random() pours no new water", random, 14, 14, 0, 0);
    }

    private interface Change {
        double make(LakeLevels x);
    }

    /** As if each lake of before were poured at its lowest place into a dry landscape that has changed already. */
    private static void changesAsPouring() {
        for (int seed = 0; seed < 30; seed++) {
            int some = seed;
            int cell = seed * 5 % 12;
            int next = cell % 4 < 3 ? cell + 1 : cell - 1;
            Change[] changes = {x -> x.setHeight(cell, some % 10), x -> x.setDrain(cell, true) ? 1 : 0,
                x -> x.setGate(cell, next, some % 12), x -> x.random(some, 9)};
            for (int i = 0; i < changes.length; i++) {
                LakeLevels wet = Made.land(4, 3);
                wet.random(1000 + seed, 9);
                LakeLevels dry = Made.land(4, 3);
                dry.random(1000 + seed, 9);
                wet.rain(1 + seed % 7);
                wet.pour(cell, 3 * seed);
                int lostBefore = (int) wet.balance(2);
                int[][] lakes = lowestPlaces(wet);
                changes[i].make(wet);
                changes[i].make(dry);
                for (int[] lake : lakes) {
                    dry.pour(lake[0], lake[1]);
                }
                String what = "change " + i + ", seed " + seed;
                Check.due(what + ": lost", wet.balance(2) - lostBefore, dry.balance(2));
                dueAlike(what, wet, dry);
            }
        }
    }

    private static int[][] lowestPlaces(LakeLevels x) {
        int[][] lakes = new int[x.count(3)][2];
        for (int lake = 0; lake < lakes.length; lake++) {
            int place = x.lake(lake, 2);
            for (long left = x.lakeCells(lake); left != 0L; left &= left - 1L) {
                int cell = Long.numberOfTrailingZeros(left);
                place = x.cell(cell, 0) < x.cell(place, 0) ? cell : place;
            }
            lakes[lake] = new int[] {place, x.lake(lake, 0)};
        }
        return lakes;
    }

    private static void dueAlike(String what, LakeLevels got, LakeLevels want) {
        Check.due(what + ": lakes", got.count(3), want.count(3));
        for (int lake = 0; lake < Math.min(got.count(3), want.count(3)); lake++) {
            Check.dueBits(what + ": cells of lake " + lake, got.lakeCells(lake), want.lakeCells(lake));
            for (int i = 0; i <= 9; i++) {
                Check.due(what + ": lake(" + lake + ", " + i + ")", got.lake(lake, i), want.lake(lake, i));
            }
        }
    }

    /** "the amount is poured at each cell, in ascending order": the other order would not join. */
    private static void rainInOrder() {
        LakeLevels x = Made.of("41:2,0,2,0;d0");
        Check.due("rain(3)", x.rain(3), 8);
        dueVolumes("in ascending order", x, 4);
        LakeLevels poured = Made.of("41:2,0,2,0;d0");
        int lost = 0;
        for (int cell = 3; cell >= 0; cell--) {
            lost += poured.pour(cell, 3);
        }
        Check.due("in descending order", lost, 8);
        dueVolumes("in descending order", poured, 2, 2);
        for (int seed = 0; seed < 40; seed++) {
            LakeLevels rained = Made.land(4, 3);
            rained.random(seed, 9);
            rained.setDrain(seed % 12, true);
            LakeLevels each = Made.land(4, 3);
            each.random(seed, 9);
            each.setDrain(seed % 12, true);
            int gone = 0;
            for (int cell = 0; cell < 12; cell++) {
                gone += each.pour(cell, seed % 8);
            }
            Check.due("rain with seed " + seed, rained.rain(seed % 8), gone);
            dueAlike("rain with seed " + seed, rained, each);
        }
    }

    /** "the amount that is lost by this", not by all calls. */
    private static void lostByThisCall() {
        LakeLevels x = Made.of(Made.BOWL);
        Check.due("pour(0, 5)", x.pour(0, 5), 2);
        Check.due("pour(0, 4)", x.pour(0, 4), 4);
        Check.due("rain(1)", x.rain(1), 3);
        Check.due("rain(2)", x.rain(2), 6);
        Check.due("pour(2, 0)", x.pour(2, 0), 0);
        dueBalance("all of it", x, 18, 3, 15, 0);
    }

    /** "the sum of the volumes of all lakes, the lost water, and the evaporated water" */
    private static void balance() {
        LakeLevels x = Made.coast();
        dueBalance("poured, lost, evaporated", x, 31, 19, 7, 5);
        x.rain(1);
        dueBalance("rain on 12 cells, 3 of the sea", x, 43, 28, 10, 5);
        x.take(0, 4);
        dueBalance("taken", x, 43, 24, 10, 9);
        x.setDrain(0, true);
        Check.due("the sum after a change", x.balance(1) + x.balance(2) + x.balance(3), 43);
        x.undo();
        dueBalance("undone", x, 43, 24, 10, 9);
        x.begin(6, 6);
        dueBalance("begin", x, 0, 0, 0, 0);
        x.undo();
        x.parse();
        dueBalance("parse", x, 0, 0, 0, 0);
    }

    /** "the number of its wet cells at the beginning of the round, but at most its volume" */
    private static void evaporation() {
        LakeLevels flat = Made.land(3, 1);
        flat.pour(0, 7);
        for (int gone : new int[] {3, 3, 1, 0}) {
            int before = flat.lake(0, 0);
            Check.due("evaporates from " + before, flat.evaporate(1), gone);
            dueVolumes("after it", flat, before - gone);
        }
        dueBalance("dry", flat, 7, 0, 0, 7);
        LakeLevels parts = joined();
        Check.due("one round", parts.evaporate(1), 3);
        dueVolumes("those that part in a round are not of its beginning", parts, 3, 5);
        parts.undo();
        Check.due("two rounds", parts.evaporate(2), 5);
        dueVolumes("in the next round they are", parts, 2, 4);
        LakeLevels slope = Made.of("31:2,1,0");
        slope.pour(0, 2);
        Check.due("wet at the beginning of each round", slope.evaporate(2), 3 - 1);
        LakeLevels two = Made.of(Made.RIDGE);
        two.pour(2, 3);
        Check.due("a dry lake gives nothing", two.evaporate(1), 1);
        Check.due("no lake", Made.of("21:0,0;d0").evaporate(100), 0);
        LakeLevels fewer = Made.of(Made.TWO_RIDGES);
        fewer.rain(2);
        Check.due("three lakes", fewer.evaporate(1), 3);
        fewer.pour(4, 20);
        Check.due("one lake, all cells wet", fewer.evaporate(1), 5);
    }

    // ---- what if

    /** "0 if it is wet already; NONE if 100000 are not enough (the limit of all water does not matter here)" */
    private static void whatIf() {
        LakeLevels x = Made.of("66:" + "0,".repeat(35) + "99");
        Check.due("the most that is ever asked for", x.amountFor(0, 35), 35 * 99 + 1);
        x.pour(0, 35 * 99);
        Check.due("one is missing", x.amountFor(35, 35), 1);
        x.pour(0, 1);
        Check.due("wet already", x.amountFor(35, 35), 0);
        LakeLevels bowl = Made.of(Made.BOWL);
        Check.due("the first drop", bowl.amountFor(1, 0), 1);
        Check.due("as high as the pass", bowl.amountFor(0, 1), NONE);
        Check.due("in the sea", bowl.amountFor(0, 2), NONE);
        bowl.pour(0, 1);
        Check.due("wet already, asked from the sea", bowl.amountFor(2, 0), 0);
        LakeLevels over = Made.of(Made.TWO_RIDGES);
        int[] amounts = {11, 16, 6, 16, 1};
        for (int cell = 0; cell < amounts.length; cell++) {
            Check.due("from cell 4 to cell " + cell, over.amountFor(4, cell), amounts[cell]);
        }
        LakeLevels full = Made.tank(1000000);
        Check.due("at the limit", full.amountFor(0, 0), 0);
    }

    /** "fewer lakes than now", "1 to 40; NONE if there is none up to 40" */
    private static void rainToJoin() {
        LakeLevels x = Made.of(Made.GATED);
        x.pour(0, 4);
        x.pour(1, 4);
        Check.due("both are full", x.rainToJoin(), 1);
        x.take(0, 1);
        Check.due("one is nearly full", x.rainToJoin(), 1);
        x.take(0, 1);
        Check.due("one has room for two", x.rainToJoin(), 2);
        Check.due("40", Made.of("21:0,0;g0,1,39").rainToJoin(), 40);
        Check.due("41", Made.of("21:0,0;g0,1,40").rainToJoin(), NONE);
        Check.due("one lake", Made.tank(1000000).rainToJoin(), NONE);
        Check.due("no lake", Made.of("21:0,0;d0").rainToJoin(), NONE);
        Check.due("a lower pass to the sea", Made.of("31:0,0,0;d2;g0,1,9;g1,2,4").rainToJoin(), NONE);
        LakeLevels steps = Made.of(Made.TWO_RIDGES);
        Check.due("fewer, if still several", steps.rainToJoin(), 3);
        LakeLevels rained = Made.of(Made.TWO_RIDGES);
        rained.rain(3);
        Check.due("the lakes after that rain", rained.count(3) < 3 ? 1 : 0, 1);
        rained.undo();
        rained.rain(2);
        Check.due("the lakes after less", rained.count(3), 3);
    }

    /** "also if there is no gate between them: the water would be poured anew" */
    private static void withoutGate() {
        LakeLevels anew = Made.of("61:0,0,5,0,5,0");
        anew.pour(3, 5);
        anew.pour(5, 6);
        anew.take(0, 1);
        dueVolumes("joined behind a dry lake", anew, 0, 10);
        Check.due("poured anew, it runs into the wide one", anew.withoutGate(0, 1), 1);
        Check.due("from the other side", anew.withoutGate(1, 0), 1);
        anew.setGate(0, 1, NONE);
        dueVolumes("setGate() does so", anew, 5, 5, 0);
        Check.due("and once more nothing changes", anew.withoutGate(0, 1), 0);
        LakeLevels drained = Made.of("31:0,0,0;g1,2,4;d2");
        drained.pour(0, 4);
        Check.due("less wet cells", drained.withoutGate(2, 1), -2);
        Check.due("another gate", drained.withoutGate(0, 1), 0);
    }
}
