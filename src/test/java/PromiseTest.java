/** The promises one by one: ordinary calls, the edges that the document names, and wrong arguments. */
public final class PromiseTest {
    private static final Class<IndexOutOfBoundsException> NO_SUCH = IndexOutOfBoundsException.class;
    private static final Class<IllegalArgumentException> OUT_OF_RANGE = IllegalArgumentException.class;
    private static final Class<IllegalStateException> NOT_NOW = IllegalStateException.class;
    private static final int NONE = LakeLevels.NONE;

    private static final String RIDGE = Made.RIDGE;
    private static final String TWO_RIDGES = Made.TWO_RIDGES;
    private static final String GATED = Made.GATED;

    private PromiseTest() {
    }

    public static void main(String[] args) {
        newObject();
        begin();
        setHeight();
        setDrain();
        setGate();
        random();
        cell();
        waysOfWater();
        between();
        count();
        pour();
        pouringOnAndOn();
        manyBasins();
        rain();
        evaporate();
        take();
        balance();
        lake();
        lakeCells();
        level();
        depth();
        deepest();
        course();
        amountFor();
        rainToJoin();
        withoutGate();
        append();
        clearText();
        parse();
        syntaxErrors();
        undo();
        undoable();
        digest();
        Check.end();
    }

    private static LakeLevels of(String text) {
        return Made.of(text);
    }

    private static void write(LakeLevels x, String text) {
        Made.write(x, text);
    }

    private static void dueVolumes(String what, LakeLevels x, int... volumes) {
        Check.due(what + ": lakes", x.count(3), volumes.length);
        for (int lake = 0; lake < volumes.length && lake < x.count(3); lake++) {
            Check.due(what + ": volume of lake " + lake, x.lake(lake, 0), volumes[lake]);
        }
    }

    private static void dueBalance(String what, LakeLevels x, int poured, int volumes, int lost, int evaporated) {
        Check.due(what + ": poured", x.balance(0), poured);
        Check.due(what + ": volumes", x.balance(1), volumes);
        Check.due(what + ": lost", x.balance(2), lost);
        Check.due(what + ": evaporated", x.balance(3), evaporated);
    }

    // ---- promises 1 to 9

    private static void newObject() {
        LakeLevels x = new LakeLevels();
        Check.due("NONE", LakeLevels.NONE, -1);
        Check.due("new: columns", x.count(0), 1);
        Check.due("new: rows", x.count(1), 1);
        Check.due("new: height", x.cell(0, 0), 0);
        Check.due("new: lakes", x.count(3), 1);
        Check.due("new: text", x.clearText(), 0);
        dueBalance("new", x, 0, 0, 0, 0);
        Check.dueThrow("new: undo()", NOT_NOW, x::undo);
        Check.due("two objects are apart", new LakeLevels().begin(2, 2) - x.count(0), 3);
    }

    private static void begin() {
        LakeLevels x = of("21:1,9;d0;g0,1,9");
        x.pour(0, 5);
        Check.due("begin(6, 6)", x.begin(6, 6), 36);
        dueBalance("begin", x, 0, 0, 0, 0);
        Check.due("begin: basins", x.count(2), 1);
        Check.due("begin: sea", x.count(5), 0);
        Check.due("begin(3, 2)", x.begin(3, 2), 6);
        Check.due("begin: columns", x.count(0), 3);
        Check.due("begin: rows", x.count(1), 2);
        Check.due("begin(1, 1)", x.begin(1, 1), 1);
        x.begin(2, 1);
        Check.due("begin: no gate is left", x.between(0, 1, false), NONE);
        Check.due("begin: no height is left", x.cell(1, 0), 0);
        for (int wrong : new int[] {0, 7, -1, Integer.MAX_VALUE, Integer.MIN_VALUE}) {
            Check.dueThrow("begin(" + wrong + ", 1)", OUT_OF_RANGE, () -> x.begin(wrong, 1));
            Check.dueThrow("begin(1, " + wrong + ")", OUT_OF_RANGE, () -> x.begin(1, wrong));
        }
        Check.due("begin that throws changes nothing", x.count(0), 2);
    }

    private static void setHeight() {
        LakeLevels x = of(RIDGE);
        x.pour(0, 3);
        Check.due("setHeight(1, 99)", x.setHeight(1, 99), 5);
        Check.due("setHeight(1, 5)", x.setHeight(1, 5), 99);
        Check.due("setHeight(0, 5)", x.setHeight(0, 5), 0);
        dueVolumes("the water runs down from where the lowest place was", x, 3);
        Check.due("all cells belong to the one pit", x.lakeCells(0), 7);
        Check.due("setHeight(0, 0)", x.setHeight(0, 0), 5);
        dueVolumes("the lowest place was cell 2", x, 0, 3);

        LakeLevels joined = of(RIDGE);
        joined.pour(0, 5);
        joined.pour(2, 5);
        joined.pour(2, 1);
        joined.take(0, 1);
        dueVolumes("joined", joined, 10);
        Check.due("the same height again", joined.setHeight(1, 5), 5);
        dueVolumes("the volume of the joined lake is poured anew", joined, 5, 5);
        Check.dueThrow("setHeight(3, 0)", NO_SUCH, () -> x.setHeight(3, 0));
        Check.dueThrow("setHeight(-1, 100)", NO_SUCH, () -> x.setHeight(-1, 100));
        Check.dueThrow("setHeight(0, 100)", OUT_OF_RANGE, () -> x.setHeight(0, 100));
        Check.dueThrow("setHeight(0, -1)", OUT_OF_RANGE, () -> x.setHeight(0, -1));
    }

    private static void setDrain() {
        LakeLevels x = of(RIDGE);
        x.pour(0, 4);
        x.pour(2, 2);
        Check.due("setDrain(0, true)", x.setDrain(0, true) ? 1 : 0, 0);
        dueBalance("the lake on the drain is lost", x, 6, 2, 4, 0);
        Check.due("setDrain(0, true) again", x.setDrain(0, true) ? 1 : 0, 1);
        Check.due("sea", x.count(5), 2);
        Check.due("setDrain(0, false)", x.setDrain(0, false) ? 1 : 0, 1);
        Check.due("no sea", x.count(5), 0);
        Check.due("setDrain(1, false)", x.setDrain(1, false) ? 1 : 0, 0);
        dueVolumes("after the drain", x, 0, 2);
        Check.dueThrow("setDrain(3, true)", NO_SUCH, () -> x.setDrain(3, true) ? 1 : 0);
        Check.dueThrow("setDrain(-1, false)", NO_SUCH, () -> x.setDrain(-1, false) ? 1 : 0);
    }

    private static void setGate() {
        LakeLevels x = new LakeLevels();
        x.begin(3, 2);
        Check.due("setGate(1, 0, 7)", x.setGate(1, 0, 7), NONE);
        Check.due("setGate(0, 1, 0)", x.setGate(0, 1, 0), 7);
        Check.due("setGate(0, 1, 99)", x.setGate(0, 1, 99), 0);
        Check.due("setGate(1, 4, 8)", x.setGate(1, 4, 8), NONE);
        Check.due("the gate from the other side", x.between(1, 0, false), 99);
        Check.due("setGate(0, 1, NONE)", x.setGate(0, 1, NONE), 99);
        Check.due("setGate(0, 1, NONE) again", x.setGate(0, 1, NONE), NONE);
        Check.due("the other gate stays", x.between(4, 1, false), 8);
        Check.dueThrow("setGate(2, 3, 0): another row", NO_SUCH, () -> x.setGate(2, 3, 0));
        Check.dueThrow("setGate(0, 4, 0): aslant", NO_SUCH, () -> x.setGate(0, 4, 0));
        Check.dueThrow("setGate(0, 0, 0)", NO_SUCH, () -> x.setGate(0, 0, 0));
        Check.dueThrow("setGate(6, 5, 0)", NO_SUCH, () -> x.setGate(6, 5, 0));
        Check.dueThrow("setGate(0, -1, 100)", NO_SUCH, () -> x.setGate(0, -1, 100));
        Check.dueThrow("setGate(1 << 30, 0, 0)", NO_SUCH, () -> x.setGate(1 << 30, 0, 0));
        Check.dueThrow("setGate(0, 1, 100)", OUT_OF_RANGE, () -> x.setGate(0, 1, 100));
        Check.dueThrow("setGate(0, 1, -2)", OUT_OF_RANGE, () -> x.setGate(0, 1, -2));

        LakeLevels even = of("21:3,3;g0,1,3");
        Check.due("a gate as high as the cells parts no plain", even.count(2), 1);
        even.pour(1, 2);
        even.setGate(0, 1, 4);
        Check.due("a higher one does", even.count(2), 2);
        dueVolumes("its water was at cell 0, the lowest of several", even, 1, 1);
    }

    private static void random() {
        LakeLevels x = new LakeLevels();
        x.begin(3, 2);
        int basins = x.random(999999, 99);
        Check.due("random: basins", basins, x.count(2));
        long s = 999999;
        for (int cell = 0; cell < 6; cell++) {
            s = (1103515245L * s + 12345L) % (1L << 31);
            Check.due("random: height " + cell, x.cell(cell, 0), (s >> 16) % 100);
        }
        x.random(1, 99);
        int[] known = {38, 58, 13, 15, 51, 27};
        for (int cell = 0; cell < 6; cell++) {
            Check.due("random(1, 99): height " + cell, x.cell(cell, 0), known[cell]);
        }
        x.pour(2, 3);
        Check.due("random(0, 0): basins", x.random(0, 0), 1);
        dueBalance("the water stays", x, 3, 3, 0, 0);
        Check.due("random(0, 0): height", x.cell(5, 0), 0);
        Check.due("one change, one state", x.undo(), 3);
        Check.dueThrow("random(-1, 0)", OUT_OF_RANGE, () -> x.random(-1, 0));
        Check.dueThrow("random(1000000, 0)", OUT_OF_RANGE, () -> x.random(1000000, 0));
        Check.dueThrow("random(0, -1)", OUT_OF_RANGE, () -> x.random(0, -1));
        Check.dueThrow("random(0, 100)", OUT_OF_RANGE, () -> x.random(0, 100));
    }

    private static void cell() {
        LakeLevels x = of("61:3,0,2,1,4,0;d5");
        x.pour(1, 2);
        int[][] due = {
            {3, 0, 0, 0, 0, 0}, {0, 0, 0, 0, 1, 1}, {2, 0, 0, 0, 0, 0},
            {1, 0, 1, 1, 0, 1}, {4, 0, NONE, NONE, 0, 0}, {0, 1, NONE, NONE, 0, 0},
        };
        for (int cell = 0; cell < 6; cell++) {
            for (int what = 0; what < 6; what++) {
                Check.due("cell(" + cell + ", " + what + ")", x.cell(cell, what), due[cell][what]);
            }
        }
        x.pour(1, 3);
        Check.due("the basin stays when its lake joins", x.cell(3, 2), 1);
        Check.due("the lake is the joined one", x.cell(3, 3), 0);
        Check.dueThrow("cell(6, 6)", NO_SUCH, () -> x.cell(6, 6));
        Check.dueThrow("cell(-1, 0)", NO_SUCH, () -> x.cell(-1, 0));
        Check.dueThrow("cell(0, 6)", OUT_OF_RANGE, () -> x.cell(0, 6));
        Check.dueThrow("cell(0, -1)", OUT_OF_RANGE, () -> x.cell(0, -1));
    }

    private static void dueBasins(String text, int... basins) {
        LakeLevels x = of(text);
        for (int cell = 0; cell < basins.length; cell++) {
            Check.due(text + ": basin of " + cell, x.cell(cell, 2), basins[cell]);
        }
    }

    private static void waysOfWater() {
        dueBasins("31:1,5,0", 0, 1, 1);
        dueBasins("31:0,5,0", 0, 0, 1);
        dueBasins("31:1,5,0;g1,2,5", 0, 1, 1);
        dueBasins("31:1,5,0;g1,2,6", 0, 0, 1);
        dueBasins("41:1,5,5,0", 0, 0, 0, 1);
        dueBasins("41:1,5,5,0;g0,1,6", 0, 1, 1, 1);
        dueBasins("41:1,5,5,0;g1,2,6", 0, 0, 1, 1);
        dueBasins("41:0,3,3,0;d2", 0, NONE, NONE, 1);
        dueBasins("31:2,1,0;d2", NONE, NONE, NONE);
        dueBasins("31:0,1,2;d2", 0, 0, NONE);
        dueBasins("33:9,1,9,1,9,2,9,0,9", 0, 0, 0, 1, 3, 2, 3, 3, 3);
        dueBasins("23:0,9,9,9,9,0", 0, 0, 0, 0, 0, 1);
    }

    private static void between() {
        LakeLevels x = of("22:1,2,3,4;g0,1,1;g1,3,9");
        Check.due("between(0, 1, false)", x.between(0, 1, false), 1);
        Check.due("between(0, 1, true)", x.between(0, 1, true), 2);
        Check.due("between(3, 1, true)", x.between(3, 1, true), 9);
        Check.due("between(3, 1, false)", x.between(3, 1, false), 9);
        Check.due("between(2, 0, true)", x.between(2, 0, true), 3);
        Check.due("between(2, 0, false)", x.between(2, 0, false), NONE);
        Check.dueThrow("between(0, 3, true)", NO_SUCH, () -> x.between(0, 3, true));
        Check.dueThrow("between(1, 2, false)", NO_SUCH, () -> x.between(1, 2, false));
        Check.dueThrow("between(3, 4, false)", NO_SUCH, () -> x.between(3, 4, false));
        Check.dueThrow("between(-1, 0, true)", NO_SUCH, () -> x.between(-1, 0, true));
    }

    private static void dueCounts(String what, LakeLevels x, int... counts) {
        for (int i = 0; i < counts.length; i++) {
            Check.due(what + ": count(" + i + ")", x.count(i), counts[i]);
        }
    }

    private static void count() {
        LakeLevels x = of("61:3,0,2,1,4,0;d5");
        dueCounts("dry", x, 6, 1, 2, 2, 0, 2, 0);
        x.pour(1, 2);
        dueCounts("one full", x, 6, 1, 2, 2, 1, 2, 1);
        x.pour(3, 1);
        dueCounts("both full", x, 6, 1, 2, 2, 2, 2, 2);
        x.pour(3, 1);
        dueCounts("joined", x, 6, 1, 2, 1, 3, 2, 0);
        x.pour(3, 100);
        dueCounts("joined and full", x, 6, 1, 2, 1, 4, 2, 1);
        LakeLevels sea = of("23:0,0,0,0,0,0;d3");
        dueCounts("sea", sea, 2, 3, 0, 0, 0, 6, 0);
        Check.dueThrow("count(7)", OUT_OF_RANGE, () -> x.count(7));
        Check.dueThrow("count(-1)", OUT_OF_RANGE, () -> x.count(-1));
    }

    // ---- promises 10 to 14

    private static void pour() {
        LakeLevels x = of(RIDGE);
        Check.due("pour(1, 5)", x.pour(1, 5), 0);
        dueVolumes("a ridge cell pours into its lake", x, 5, 0);
        x.pour(0, 1);
        dueVolumes("flows over", x, 5, 1);
        x.pour(0, 4);
        dueVolumes("both full, nothing left", x, 5, 5);
        x.pour(0, 0);
        dueVolumes("nothing poured, nothing joined", x, 5, 5);
        x.pour(2, 1);
        dueVolumes("joined", x, 11);
        Check.due("without limit", x.pour(2, 100000), 0);
        dueVolumes("without limit", x, 100011);

        LakeLevels sea = of("31:2,1,0;d2");
        Check.due("pour into the sea", sea.pour(0, 7), 7);
        dueBalance("sea", sea, 7, 0, 7, 0);
        LakeLevels bowl = of("31:0,3,0;d2");
        Check.due("what flows over into the sea is lost", bowl.pour(0, 10), 7);
        dueBalance("bowl", bowl, 10, 3, 7, 0);
        wrongPours(x);
    }

    private static void wrongPours(LakeLevels x) {
        Check.dueThrow("pour(3, -1)", NO_SUCH, () -> x.pour(3, -1));
        Check.dueThrow("pour(-1, 0)", NO_SUCH, () -> x.pour(-1, 0));
        Check.dueThrow("pour(0, -1)", OUT_OF_RANGE, () -> x.pour(0, -1));
        Check.dueThrow("pour(0, 100001)", OUT_OF_RANGE, () -> x.pour(0, 100001));
        LakeLevels full = new LakeLevels();
        for (int i = 0; i < 9; i++) {
            full.pour(0, 100000);
        }
        full.pour(0, 99999);
        Check.dueThrow("pour(0, 2) over the limit", NOT_NOW, () -> full.pour(0, 2));
        Check.dueThrow("pour(0, 100001) over the limit", OUT_OF_RANGE, () -> full.pour(0, 100001));
        Check.due("up to the limit", full.pour(0, 1), 0);
        Check.due("nothing at the limit", full.pour(0, 0), 0);
        Check.dueThrow("pour(0, 1) at the limit", NOT_NOW, () -> full.pour(0, 1));
        dueBalance("at the limit", full, 1000000, 1000000, 0, 0);
    }

    private static void pouringOnAndOn() {
        LakeLevels x = of(TWO_RIDGES);
        x.pour(4, 15);
        dueVolumes("from lake to lake", x, 5, 5, 5);
        x.pour(4, 1);
        dueVolumes("all three joined by one pouring", x, 16);
        Check.due("its lowest volume", x.lake(0, 9), 15);
        Check.due("its basins", x.lake(0, 5), 3);

        LakeLevels steps = of("51:9,0,5,0,3;d4");
        Check.due("down the steps", steps.pour(1, 9), 1);
        dueVolumes("down the steps", steps, 5, 3);
        steps.pour(1, 1);
        dueVolumes("a full lake with a lower pass does not join", steps, 5, 3);
        dueBalance("down the steps", steps, 10, 8, 2, 0);
    }

    /** All 36 cells even, with gates of height 1 between all of them: the most basins there can be. */
    private static void manyBasins() {
        LakeLevels x = new LakeLevels();
        x.begin(6, 6);
        for (int cell = 0; cell < 36; cell++) {
            if (cell % 6 < 5) {
                x.setGate(cell, cell + 1, 1);
            }
            if (cell < 30) {
                x.setGate(cell, cell + 6, 1);
            }
        }
        Check.due("a basin for each cell", x.count(2), 36);
        for (int round = 0; round < 5; round++) {
            x.rain(1);
            dueCounts("all full", x, 6, 6, 36, 36, 36, 0, 36);
            x.pour(14, 1);
            dueLake("all joined", x, 0, 37, NONE, 0, 36, 36, 36, NONE, NONE, NONE, 36);
            Check.due("down to the lowest volume", x.take(0, 1), 1);
            Check.due("all in one, until water is gone from it", x.count(3), 1);
            x.take(0, 36);
            dueCounts("all parted", x, 6, 6, 36, 36, 0, 0, 0);
        }
        dueBalance("many basins", x, 185, 0, 0, 185);
    }

    private static void rain() {
        LakeLevels x = of(GATED);
        Check.due("rain(4)", x.rain(4), 0);
        dueVolumes("rain(4)", x, 4, 4);
        x.undo();
        Check.due("rain(5)", x.rain(5), 0);
        dueVolumes("rain(5)", x, 10);
        dueBalance("rain(5)", x, 10, 10, 0, 0);
        LakeLevels bowl = of("31:0,3,0;d2");
        Check.due("rain(2) is lost in part", bowl.rain(2), 3);
        dueBalance("bowl", bowl, 6, 3, 3, 0);
        Check.due("rain(0)", bowl.rain(0), 0);
        Check.dueThrow("rain(-1)", OUT_OF_RANGE, () -> x.rain(-1));
        Check.dueThrow("rain(1001)", OUT_OF_RANGE, () -> x.rain(1001));
        LakeLevels full = new LakeLevels();
        full.begin(6, 6);
        for (int i = 0; i < 27; i++) {
            full.rain(1000);
        }
        Check.dueThrow("rain(778) over the limit", NOT_NOW, () -> full.rain(778));
        Check.dueThrow("rain(1001) over the limit", OUT_OF_RANGE, () -> full.rain(1001));
        Check.due("rain(777)", full.rain(777), 0);
        dueBalance("close to the limit", full, 999972, 999972, 0, 0);
        Check.dueThrow("rain(1)", NOT_NOW, () -> full.rain(1));
        Check.due("pour up to the limit", full.pour(0, 28), 0);
    }

    private static void evaporate() {
        LakeLevels x = of(RIDGE);
        x.pour(0, 5);
        x.pour(2, 5);
        x.pour(2, 1);
        Check.due("evaporate(1)", x.evaporate(1), 3);
        dueVolumes("the lake has parted", x, 3, 5);
        Check.due("evaporate(2)", x.evaporate(2), 4);
        dueVolumes("a wet cell each", x, 1, 3);
        Check.due("evaporate(100)", x.evaporate(100), 4);
        dueVolumes("dry", x, 0, 0);
        dueBalance("dry", x, 11, 0, 0, 11);
        Check.due("evaporate(0)", x.evaporate(0), 0);
        LakeLevels flat = of("21:0,0");
        flat.pour(0, 3);
        Check.due("at most the volume", flat.evaporate(2), 3);
        Check.dueThrow("evaporate(-1)", OUT_OF_RANGE, () -> x.evaporate(-1));
        Check.dueThrow("evaporate(101)", OUT_OF_RANGE, () -> x.evaporate(101));
    }

    private static void take() {
        LakeLevels x = of(RIDGE);
        x.pour(0, 5);
        x.pour(2, 6);
        Check.due("take(0, 1) down to the lowest volume", x.take(0, 1), 1);
        Check.due("take(0, 1) below it", x.take(0, 1), 2);
        dueVolumes("from the part with the lower lowest cell", x, 4, 5);
        x.undo();
        Check.due("take(0, 7)", x.take(0, 7), 2);
        dueVolumes("then from the other part", x, 0, 3);
        dueBalance("taken water counts as evaporated", x, 11, 3, 0, 8);
        Check.due("take(1, 3)", x.take(1, 3), 2);
        Check.due("take(0, 0)", x.take(0, 0), 2);
        LakeLevels three = of(TWO_RIDGES);
        three.pour(4, 16);
        Check.due("take(0, 7) of three", three.take(0, 7), 3);
        dueVolumes("a part parts in turn", three, 0, 4, 5);
        three.pour(2, 7);
        three.take(0, 5);
        dueVolumes("lakes that have parted fill and can be taken from again", three, 1, 5, 5);
        Check.dueThrow("take(3, -1)", NO_SUCH, () -> three.take(3, -1));
        Check.dueThrow("take(-1, 0)", NO_SUCH, () -> three.take(-1, 0));
        Check.dueThrow("take(1, 6)", OUT_OF_RANGE, () -> three.take(1, 6));
        Check.dueThrow("take(1, -1)", OUT_OF_RANGE, () -> three.take(1, -1));
    }

    private static void balance() {
        LakeLevels x = of("31:0,3,0;d2");
        x.pour(0, 10);
        x.rain(1);
        x.take(0, 2);
        dueBalance("poured, lost and taken", x, 13, 1, 10, 2);
        x.setDrain(0, true);
        dueBalance("a change of the landscape loses water", x, 13, 0, 11, 2);
        x.parse();
        dueBalance("parse", x, 0, 0, 0, 0);
        Check.dueThrow("balance(4)", OUT_OF_RANGE, () -> x.balance(4));
        Check.dueThrow("balance(-1)", OUT_OF_RANGE, () -> x.balance(-1));
    }

    // ---- promises 15 to 20

    private static void dueLake(String what, LakeLevels x, int lake, int... values) {
        for (int i = 0; i < values.length; i++) {
            Check.due(what + ": lake(" + lake + ", " + i + ")", x.lake(lake, i), values[i]);
        }
    }

    private static void lake() {
        LakeLevels x = of(TWO_RIDGES);
        x.pour(2, 2);
        dueLake("basin", x, 0, 0, 5, 0, 2, 0, 1, 5, 1, 2, 0);
        dueLake("the pass with the lowest a", x, 1, 2, 5, 2, 2, 1, 1, 5, 2, 1, 0);
        dueLake("basin", x, 2, 0, 5, 4, 1, 0, 1, 5, 4, 3, 0);
        x.pour(0, 9);
        dueLake("joined", x, 0, 10, 10, 0, 4, 2, 2, 5, 3, 4, 10);
        x.pour(4, 10);
        dueLake("without a pass", x, 0, 21, NONE, 0, 5, 5, 3, NONE, NONE, NONE, 15);
        LakeLevels square = of("33:9,9,9,9,0,9,9,9,9;d0;d2;d6;d8");
        dueLake("the pass with the lowest b", square, 0, 0, 9, 4, 1, 0, 1, 9, 4, 1, 0);
        Check.dueThrow("lake(1, 10)", NO_SUCH, () -> x.lake(1, 10));
        Check.dueThrow("lake(-1, 0)", NO_SUCH, () -> x.lake(-1, 0));
        Check.dueThrow("lake(0, 10)", OUT_OF_RANGE, () -> x.lake(0, 10));
        Check.dueThrow("lake(0, -1)", OUT_OF_RANGE, () -> x.lake(0, -1));
    }

    private static void lakeCells() {
        LakeLevels x = of(TWO_RIDGES);
        Check.dueBits("lakeCells(1)", x.lakeCells(1), 12L);
        x.pour(4, 11);
        Check.dueBits("lakeCells(1) of joined ones", x.lakeCells(0), 3L);
        LakeLevels wide = new LakeLevels();
        wide.begin(6, 6);
        Check.dueBits("all 36 cells", wide.lakeCells(0), (1L << 36) - 1L);
        wide.setDrain(35, true);
        Check.dueThrow("lakeCells(0) without lakes", NO_SUCH, () -> wide.lakeCells(0));
        Check.dueThrow("lakeCells(3)", NO_SUCH, () -> x.lakeCells(3));
        Check.dueThrow("lakeCells(-1)", NO_SUCH, () -> x.lakeCells(-1));
    }

    private static void dueLevel(String what, LakeLevels x, int lake, int top, int bottom) {
        Check.due(what + ": numerator", x.level(lake, 0), top);
        Check.due(what + ": denominator", x.level(lake, 1), bottom);
    }

    private static void level() {
        LakeLevels x = of("41:7,3,4,9");
        dueLevel("dry: the height of the lowest cell", x, 0, 3, 1);
        x.pour(0, 1);
        dueLevel("just up to the next cell", x, 0, 4, 1);
        x.pour(0, 1);
        dueLevel("two cells", x, 0, 9, 2);
        x.pour(0, 4);
        dueLevel("in lowest terms", x, 0, 13, 2);
        x.pour(0, 3);
        dueLevel("three cells", x, 0, 23, 3);
        x.pour(0, 100000);
        dueLevel("all cells", x, 0, 100032 / 4, 1);
        Check.dueThrow("level(1, 2)", NO_SUCH, () -> x.level(1, 2));
        Check.dueThrow("level(-1, 0)", NO_SUCH, () -> x.level(-1, 0));
        Check.dueThrow("level(0, 2)", OUT_OF_RANGE, () -> x.level(0, 2));
        Check.dueThrow("level(0, -1)", OUT_OF_RANGE, () -> x.level(0, -1));
    }

    private static void depth() {
        LakeLevels x = of("41:7,3,4,9");
        Check.due("dry", x.depth(1), 0.0);
        x.pour(0, 9);
        Check.due("depth(0)", x.depth(0), 2.0 / 3.0);
        Check.due("depth(1)", x.depth(1), 14.0 / 3.0);
        Check.due("depth(2)", x.depth(2), 11.0 / 3.0);
        Check.due("not wet", x.depth(3), 0.0);
        LakeLevels sea = of("21:0,0;d1");
        Check.due("sea", sea.depth(0), 0.0);
        Check.dueThrow("depth(4)", NO_SUCH, () -> x.depth(4));
        Check.dueThrow("depth(-1)", NO_SUCH, () -> x.depth(-1));
    }

    private static void deepest() {
        LakeLevels x = of("31:3,9,0");
        Check.due("dry", x.deepest(), NONE);
        x.pour(2, 2);
        Check.due("one wet cell", x.deepest(), 2);
        x.pour(0, 2);
        Check.due("of several the lowest number", x.deepest(), 0);
        x.pour(2, 1);
        Check.due("the deepest", x.deepest(), 2);
        LakeLevels shallow = new LakeLevels();
        shallow.begin(6, 6);
        shallow.pour(20, 1);
        Check.due("as shallow as can be", shallow.deepest(), 0);
        Check.due("its depth", shallow.depth(20), 1.0 / 36.0);
    }

    private static void course() {
        LakeLevels x = of("41:1,5,5,0");
        Check.dueBits("course(2)", x.course(2), 7L);
        Check.dueBits("course(3)", x.course(3), 8L);
        Check.dueBits("course(0)", x.course(0), 1L);
        LakeLevels slope = of("32:5,4,3,0,1,2;d3");
        Check.dueBits("down to the drain", slope.course(0), 0b001001L);
        Check.dueBits("all the way", slope.course(2), 0b111100L);
        LakeLevels drain = of("31:0,3,0;d1");
        Check.dueBits("not beyond a drain", drain.course(1), 2L);
        Check.dueThrow("course(4)", NO_SUCH, () -> x.course(4));
        Check.dueThrow("course(-1)", NO_SUCH, () -> x.course(-1));
    }

    // ---- promises 21 to 23

    private static void amountFor() {
        LakeLevels x = of(RIDGE);
        long before = x.digest();
        Check.due("amountFor(0, 0)", x.amountFor(0, 0), 1);
        Check.due("amountFor(0, 2)", x.amountFor(0, 2), 6);
        Check.due("amountFor(0, 1)", x.amountFor(0, 1), 11);
        Check.due("amountFor(1, 0)", x.amountFor(1, 0), 1);
        Check.dueBits("what if changes nothing", x.digest(), before);
        x.pour(0, 4);
        Check.due("amountFor(2, 0)", x.amountFor(2, 0), 0);
        Check.due("amountFor(0, 2)", x.amountFor(0, 2), 2);
        LakeLevels bowl = of("31:0,3,0;d2");
        Check.due("from the sea", bowl.amountFor(2, 0), NONE);
        Check.due("never wet", bowl.amountFor(0, 1), NONE);
        Check.dueThrow("amountFor(3, 0)", NO_SUCH, () -> x.amountFor(3, 0));
        Check.dueThrow("amountFor(0, 3)", NO_SUCH, () -> x.amountFor(0, 3));
        Check.dueThrow("amountFor(-1, 0)", NO_SUCH, () -> x.amountFor(-1, 0));
        Check.dueThrow("amountFor(0, -1)", NO_SUCH, () -> x.amountFor(0, -1));
    }

    private static void rainToJoin() {
        LakeLevels x = of(GATED);
        long before = x.digest();
        Check.due("rainToJoin()", x.rainToJoin(), 5);
        Check.dueBits("what if changes nothing", x.digest(), before);
        x.pour(0, 4);
        Check.due("with water", x.rainToJoin(), 3);
        x.rain(5);
        Check.due("one lake", x.rainToJoin(), NONE);
        Check.due("just 40", of("21:0,0;g0,1,39").rainToJoin(), 40);
        Check.due("more than 40", of("21:0,0;g0,1,40").rainToJoin(), NONE);
        Check.due("no lake", of("21:0,0;d0").rainToJoin(), NONE);
    }

    private static void withoutGate() {
        LakeLevels x = of(GATED);
        x.pour(0, 2);
        long before = x.digest();
        Check.due("more wet cells", x.withoutGate(1, 0), 1);
        Check.dueBits("what if changes nothing", x.digest(), before);
        LakeLevels drained = of("21:0,0;g0,1,4;d1");
        drained.pour(0, 2);
        Check.due("less wet cells", drained.withoutGate(0, 1), -1);
        Check.due("no gate", of(RIDGE).withoutGate(0, 1), 0);
        LakeLevels anew = of("51:1,0,2,0,9");
        anew.pour(1, 4);
        anew.pour(3, 1);
        anew.take(0, 2);
        int wet = anew.count(4);
        int difference = anew.withoutGate(3, 4);
        anew.setGate(3, 4, NONE);
        Check.due("as setGate() with NONE", difference, anew.count(4) - wet);
        Check.dueThrow("withoutGate(0, 2)", NO_SUCH, () -> anew.withoutGate(0, 2));
        Check.dueThrow("withoutGate(4, 5)", NO_SUCH, () -> anew.withoutGate(4, 5));
        Check.dueThrow("withoutGate(-1, 0)", NO_SUCH, () -> anew.withoutGate(-1, 0));
    }

    // ---- promises 24 to 26

    private static void append() {
        LakeLevels x = new LakeLevels();
        Check.due("append(0)", x.append(0), 1);
        Check.due("append(127)", x.append(127), 2);
        Check.dueThrow("append(128)", OUT_OF_RANGE, () -> x.append(128));
        Check.dueThrow("append(-1)", OUT_OF_RANGE, () -> x.append(-1));
        for (int length = 3; length <= 150; length++) {
            Check.due("append", x.append('1'), length);
        }
        Check.dueThrow("append to 150 bytes", NOT_NOW, () -> x.append('1'));
        Check.dueThrow("append(128) to 150 bytes", OUT_OF_RANGE, () -> x.append(128));
        Check.due("150 bytes", x.clearText(), 150);
        Check.dueThrow("append is not undoable", NOT_NOW, x::undo);
    }

    private static void clearText() {
        LakeLevels x = new LakeLevels();
        write(x, "21:7,8");
        Check.due("clearText()", x.clearText(), 6);
        Check.due("clearText() again", x.clearText(), 0);
        Check.due("an empty text", x.parse(), -10);
        Check.due("append after it", x.append('1'), 1);
        Check.dueThrow("clearText is not undoable", NOT_NOW, x::undo);
    }

    private static void parse() {
        LakeLevels x = of(RIDGE);
        x.pour(0, 5);
        Check.due("parse(): basins", x.parse(), 2);
        dueBalance("parse(): no water", x, 0, 0, 0, 0);
        Check.due("the text stays", x.clearText(), RIDGE.length());
        x.pour(0, 3);
        Check.due("parse() with an error", x.parse(), -10);
        dueVolumes("then nothing changes", x, 3, 0);
        write(x, "23:01,2,99,00,5,06;g2,0,12;d05;g2,0,13;d1;d1;g3,05,0");
        Check.due("parse(): basins", x.parse(), 3);
        int[] heights = {1, 2, 99, 0, 5, 6};
        for (int cell = 0; cell < 6; cell++) {
            Check.due("height " + cell, x.cell(cell, 0), heights[cell]);
            Check.due("drain " + cell, x.cell(cell, 1), cell == 1 || cell == 5 ? 1 : 0);
        }
        Check.due("the later gate", x.between(0, 2, false), 13);
        Check.due("a gate of height 0", x.between(5, 3, false), 0);
        Check.due("no gate", x.between(0, 1, false), NONE);
        write(x, "66:" + "10,".repeat(35) + "9;g34,35,99;g0,1,1;g0,6,1;d0;d35");
        Check.due("a long text", x.parse(), 0);
    }

    private static void dueFault(String text, int position) {
        LakeLevels x = new LakeLevels();
        write(x, text);
        Check.due("parse() of '" + text + "'", x.parse(), position == NONE ? x.count(2) : -10 - position);
        Check.due("columns after '" + text + "'", x.count(0), position == NONE ? text.charAt(0) - '0' : 1);
    }

    private static void syntaxErrors() {
        Object[][] due = {
            {"", 0}, {"2", 1}, {"21", 2}, {"21:", 3}, {"21:0", 4}, {"21:0,", 5}, {"21:0,0", NONE}, {"21:0,0;", 7},
            {"01:0", 0}, {"71:0", 0}, {"x", 0}, {"10:0", 1}, {"17:0", 1}, {"1:0", 1}, {"210", 2}, {"21 :0,0", 2},
            {"21:,0", 3}, {"21: 0,0", 3}, {"21:100,0", 5}, {"21:00,000", 8}, {"21:0;0", 4}, {"21:0,0,0", 6},
            {"21:0,0 ", 6}, {"21:-1,0", 3}, {"21:0,0;x", 7}, {"21:0,0;;", 7}, {"21:0,0d1", 6}, {"21:0,0;D1", 7},
            {"21:0,0;d", 8}, {"21:0,0;d1", NONE}, {"21:0,0;d01", NONE}, {"21:0,0;d2", 8}, {"21:0,0;d2x", 8},
            {"21:0,0;d20", 8}, {"21:0,0;d200", 10}, {"21:0,0;d001", 10}, {"21:0,0;d0,", 9}, {"21:0,0;dd", 8},
            {"21:0,0;d0;", 10}, {"21:0,0;d0;d1", NONE}, {"21:0,0;g", 8}, {"21:0,0;g0", 9}, {"21:0,0;g0,", 10},
            {"21:0,0;g2,1,0", 8}, {"21:0,0;g2", 8}, {"21:0,0;g02;", 8}, {"21:0,0;g000", 10}, {"21:0,0;g0;", 9},
            {"21:0,0;g0,0", 10}, {"21:0,0;g0,0,0", 10}, {"21:0,0;g0,2,0", 10}, {"21:0,0;g0,02;", 10},
            {"21:0,0;g0,011", 12}, {"21:0,0;g0,1", 11}, {"21:0,0;g0,1;", 11}, {"21:0,0;g0,1,", 12},
            {"21:0,0;g0,1,x", 12}, {"21:0,0;g0,1,99", NONE}, {"21:0,0;g0,1,100", 14}, {"21:0,0;g0,1,9,", 13},
            {"21:0,0;g1,0,00;d0", NONE}, {"22:0,0,0,0;g0,3,1", 14}, {"22:0,0,0,0;g1,2,1", 14}, {"11:5;g0,0,1", 8},
        };
        for (Object[] row : due) {
            dueFault((String) row[0], (Integer) row[1]);
        }
    }

    // ---- promises 27 and 28

    private static void undo() {
        LakeLevels x = of(RIDGE);
        for (int amount = 1; amount <= 5; amount++) {
            x.pour(0, amount);
        }
        dueVolumes("15 poured", x, 15);
        for (int left = 3; left >= 0; left--) {
            Check.due("undo()", x.undo(), left);
        }
        dueVolumes("at most 4 states", x, 1, 0);
        Check.dueThrow("undo() without a state", NOT_NOW, x::undo);
        dueBalance("undone", x, 1, 1, 0, 0);

        x.pour(2, 10);
        long joined = x.digest();
        x.begin(6, 6);
        x.setDrain(3, true);
        x.append('z');
        x.undo();
        Check.due("the size is undone last", x.undo(), 1);
        Check.due("the text is not restored", x.clearText(), RIDGE.length() + 1);
        write(x, RIDGE);
        Check.dueBits("all else is", x.digest(), joined);
        x.take(0, 2);
        dueVolumes("a restored lake parts as before", x, 4, 5);
    }

    private interface Step {
        double make(LakeLevels x);
    }

    private static void dueUndoable(String what, boolean undoable, Step step) {
        LakeLevels x = of(GATED);
        x.undo();
        x.parse();
        x.undo();
        x.begin(2, 1);
        x.pour(0, 3);
        long before = x.digest();
        step.make(x);
        Check.due("states after " + what, x.undo(), undoable ? 2 : 1);
        if (undoable) {
            Check.dueBits(what + " undone", x.digest(), before);
        }
    }

    private static void undoable() {
        dueUndoable("begin", true, x -> x.begin(1, 6));
        dueUndoable("setHeight", true, x -> x.setHeight(1, 0));
        dueUndoable("setDrain", true, x -> x.setDrain(1, false) ? 1 : 0);
        dueUndoable("setGate", true, x -> x.setGate(0, 1, NONE));
        dueUndoable("random", true, x -> x.random(5, 9));
        dueUndoable("pour", true, x -> x.pour(0, 0));
        dueUndoable("rain", true, x -> x.rain(0));
        dueUndoable("evaporate", true, x -> x.evaporate(0));
        dueUndoable("take", true, x -> x.take(0, 0));
        dueUndoable("parse", true, x -> x.parse());
        dueUndoable("parse with an error", false, x -> x.clearText() + x.parse());
        dueUndoable("amountFor", false, x -> x.amountFor(0, 1));
        dueUndoable("rainToJoin", false, x -> x.rainToJoin());
        dueUndoable("withoutGate", false, x -> x.withoutGate(0, 1));
        dueUndoable("clearText", false, x -> x.clearText());
        dueUndoable("digest", false, x -> x.digest());
        LakeLevels x = new LakeLevels();
        Check.dueThrow("pour(0, -1)", OUT_OF_RANGE, () -> x.pour(0, -1));
        Check.dueThrow("setGate(0, 1, 1)", NO_SUCH, () -> x.setGate(0, 1, 1));
        Check.dueThrow("a call that throws saves nothing", NOT_NOW, x::undo);
    }

    private static long hashOf(long... values) {
        long hash = 3049L;
        for (long value : values) {
            hash = 31L * hash + value;
        }
        return hash;
    }

    private static void digest() {
        LakeLevels x = new LakeLevels();
        Check.dueBits("digest of a new object", x.digest(), hashOf(0, 1, 1, 1, 1, 0, 0, 0, 0, 0, 0, 0, 0, 1,
                0, -1, 0, 1, 0, 1, -1, -1, -1, 0, 1, 0, 1, 0, 0, 0, 0, 0));
        LakeLevels sea = of("21:4,0;d1");
        sea.pour(0, 7);
        Check.dueBits("digest without lakes", sea.digest(), hashOf(9, 2, 1, 0, 0, 0, 2, 0,
                4, 0, -1, -1, 0, 0, 0, 1, -1, -1, 0, 0, 7, 0, 7, 0, 2));
        LakeLevels two = of(GATED);
        two.pour(1, 4);
        two.pour(0, 3);
        two.take(0, 1);
        Check.dueBits("digest of two lakes", two.digest(), hashOf(13, 2, 1, 2, 2, 2, 0, 1,
                0, 0, 0, 0, 1, 1, 0, 0, 1, 1, 1, 1,
                2, 4, 0, 1, 1, 1, 4, 0, 1, 0, 1, 2, 1,
                4, 4, 1, 1, 1, 1, 4, 1, 0, 0, 2, 4, 1,
                7, 6, 0, 1, 4));
        Check.dueBits("digest asks alone", two.digest(), two.digest());
    }
}
