/**
 * The ranges of all arguments, with the last value that is allowed and the first that is not on both sides,
 * and the exception that is thrown where several apply. Each refused call is made on one of two objects
 * with the same past; both are then read to the end, saved states and text included, and must be alike.
 */
public final class RefusalTest {
    private static final Class<IndexOutOfBoundsException> NO_SUCH = IndexOutOfBoundsException.class;
    private static final Class<IllegalArgumentException> OUT_OF_RANGE = IllegalArgumentException.class;
    private static final Class<IllegalStateException> NOT_NOW = IllegalStateException.class;
    private static final int LEAST = Integer.MIN_VALUE;
    private static final int MOST = Integer.MAX_VALUE;
    /** With the 12 cells of Made.coast(). */
    private static final int[] NO_CELLS = {-1, 12, 36, LEAST, MOST};

    private interface Past {
        LakeLevels make();
    }

    private interface Step {
        double make(LakeLevels x);
    }

    private RefusalTest() {
    }

    public static void main(String[] args) {
        begin();
        setHeight();
        setDrain();
        setGate();
        random();
        cell();
        between();
        count();
        pour();
        limitOfPouring();
        rain();
        limitOfRain();
        evaporate();
        take();
        balance();
        lake();
        lakeCells();
        level();
        depthAndCourse();
        whatIf();
        append();
        parse();
        undo();
        askingChangesNothing();
        Check.end();
    }

    private static void refused(String call, Past past, Class<? extends RuntimeException> want, Step step) {
        LakeLevels tried = past.make();
        LakeLevels left = past.make();
        Check.dueThrow(call, want, () -> step.make(tried));
        Check.dueText("the state behind " + call, State.toTheEnd(tried), State.toTheEnd(left));
    }

    private static void refused(String call, Class<? extends RuntimeException> want, Step step) {
        refused(call, Made::coast, want, step);
    }

    private static void allowed(String call, Past past, double want, Step step) {
        Check.due(call, step.make(past.make()), want);
    }

    private static void allowed(String call, double want, Step step) {
        allowed(call, Made::coast, want, step);
    }

    // ---- landscape

    private static void begin() {
        int[][] fine = {{1, 1}, {1, 6}, {6, 1}, {6, 6}};
        for (int[] size : fine) {
            String call = "begin(" + size[0] + ", " + size[1] + ")";
            allowed(call, size[0] * size[1], x -> x.begin(size[0], size[1]));
        }
        for (int wrong : new int[] {0, 7, -1, LEAST, MOST}) {
            refused("begin(" + wrong + ", 1)", OUT_OF_RANGE, x -> x.begin(wrong, 1));
            refused("begin(6, " + wrong + ")", OUT_OF_RANGE, x -> x.begin(6, wrong));
            refused("begin twice " + wrong, OUT_OF_RANGE, x -> x.begin(wrong, wrong));
        }
    }

    private static void setHeight() {
        allowed("setHeight(0, 0)", 0, x -> x.setHeight(0, 0));
        allowed("setHeight(11, 99)", 9, x -> x.setHeight(11, 99));
        allowed("the height is 99", 99, x -> x.setHeight(11, 99) * 0 + x.cell(11, 0));
        allowed("the height is 0", 0, x -> x.setHeight(11, 0) * 0 + x.cell(11, 0));
        for (int cell : NO_CELLS) {
            refused("setHeight(" + cell + ", 5)", NO_SUCH, x -> x.setHeight(cell, 5));
            refused("setHeight(" + cell + ", 100)", NO_SUCH, x -> x.setHeight(cell, 100));
        }
        for (int height : new int[] {-1, 100, LEAST, MOST}) {
            refused("setHeight(0, " + height + ")", OUT_OF_RANGE, x -> x.setHeight(0, height));
        }
    }

    private static void setDrain() {
        allowed("setDrain(0, true)", 0, x -> x.setDrain(0, true) ? 1 : 0);
        allowed("setDrain(11, true)", 0, x -> x.setDrain(11, true) ? 1 : 0);
        allowed("setDrain(5, false)", 1, x -> x.setDrain(5, false) ? 1 : 0);
        for (int cell : NO_CELLS) {
            refused("setDrain(" + cell + ", true)", NO_SUCH, x -> x.setDrain(cell, true) ? 1 : 0);
            refused("setDrain(" + cell + ", false)", NO_SUCH, x -> x.setDrain(cell, false) ? 1 : 0);
        }
    }

    /** In 6 columns and 2 rows: the ends of both rows, a cell itself, aslant, two steps off, and no cells. */
    private static final int[][] NO_NEIGHBORS = {
        {5, 6}, {6, 5}, {0, 0}, {11, 11}, {0, 7}, {7, 0}, {1, 6}, {0, 2}, {2, 0}, {0, 11},
        {0, -1}, {-1, 0}, {11, 12}, {12, 11}, {0, -6}, {-6, 0}, {6, 12}, {12, 6}, {12, 13}, {-2, -1},
        {0, LEAST}, {LEAST, 0}, {0, MOST}, {MOST, 0}, {LEAST, MOST}, {MOST, LEAST}, {MOST, MOST - 1},
    };

    private static void setGate() {
        allowed("setGate(0, 1, 0)", -1, x -> x.setGate(0, 1, 0));
        allowed("the gate is 0", 0, x -> x.setGate(0, 1, 0) * 0 + x.between(0, 1, false));
        allowed("setGate(11, 5, 99)", -1, x -> x.setGate(11, 5, 99));
        allowed("the gate is 99", 99, x -> x.setGate(11, 5, 99) * 0 + x.between(5, 11, false));
        allowed("setGate(10, 4, NONE)", 9, x -> x.setGate(10, 4, LakeLevels.NONE));
        allowed("the gate is gone", -1, x -> x.setGate(10, 4, LakeLevels.NONE) * 0 + x.between(4, 10, false));
        for (int[] pair : NO_NEIGHBORS) {
            String cells = pair[0] + ", " + pair[1];
            refused("setGate(" + cells + ", 5)", NO_SUCH, x -> x.setGate(pair[0], pair[1], 5));
            refused("setGate(" + cells + ", 100)", NO_SUCH, x -> x.setGate(pair[0], pair[1], 100));
        }
        for (int height : new int[] {-2, 100, LEAST, MOST}) {
            refused("setGate(0, 1, " + height + ")", OUT_OF_RANGE, x -> x.setGate(0, 1, height));
            refused("setGate(10, 4, " + height + ")", OUT_OF_RANGE, x -> x.setGate(10, 4, height));
        }
    }

    private static void random() {
        Past land = () -> Made.land(2, 2);
        allowed("random(0, 0)", land, 1, x -> x.random(0, 0));
        // From 0, s is 12345 at first, so the height is 0; then 1406932606, and 21468 modulo 100 is 68.
        allowed("random(0, 99): the first height", land, 0, x -> x.random(0, 99) * 0 + x.cell(0, 0));
        allowed("random(0, 99): the second height", land, 68, x -> x.random(0, 99) * 0 + x.cell(1, 0));
        allowed("random(0, 1): the second height", land, 0, x -> x.random(0, 1) * 0 + x.cell(1, 0));
        allowed("random(999999, 99)", land, (1103515245L * 999999L + 12345L) % 2147483648L / 65536L % 100L,
                x -> x.random(999999, 99) * 0 + x.cell(0, 0));
        for (int seed : new int[] {-1, 1000000, LEAST, MOST}) {
            refused("random(" + seed + ", 9)", OUT_OF_RANGE, x -> x.random(seed, 9));
        }
        for (int highest : new int[] {-1, 100, LEAST, MOST}) {
            refused("random(9, " + highest + ")", OUT_OF_RANGE, x -> x.random(9, highest));
        }
        refused("random(-1, -1)", OUT_OF_RANGE, x -> x.random(-1, -1));
    }

    private static void cell() {
        int[] due = {9, 0, -1, -1, 0, 0};
        for (int what = 0; what <= 5; what++) {
            int asked = what;
            allowed("cell(11, " + what + ")", due[what], x -> x.cell(11, asked));
        }
        for (int cell : NO_CELLS) {
            refused("cell(" + cell + ", 0)", NO_SUCH, x -> x.cell(cell, 0));
            refused("cell(" + cell + ", 6)", NO_SUCH, x -> x.cell(cell, 6));
        }
        for (int what : new int[] {-1, 6, LEAST, MOST}) {
            refused("cell(0, " + what + ")", OUT_OF_RANGE, x -> x.cell(0, what));
        }
    }

    private static void between() {
        allowed("between(0, 1, true)", 5, x -> x.between(0, 1, true));
        allowed("between(11, 5, true)", 9, x -> x.between(11, 5, true));
        allowed("between(5, 11, false)", -1, x -> x.between(5, 11, false));
        for (int[] pair : NO_NEIGHBORS) {
            String cells = pair[0] + ", " + pair[1];
            refused("between(" + cells + ", true)", NO_SUCH, x -> x.between(pair[0], pair[1], true));
            refused("between(" + cells + ", false)", NO_SUCH, x -> x.between(pair[0], pair[1], false));
        }
    }

    private static void count() {
        int[] due = {6, 2, 3, 2, 5, 3, 0};
        for (int what = 0; what <= 6; what++) {
            int asked = what;
            allowed("count(" + what + ")", due[what], x -> x.count(asked));
        }
        for (int what : new int[] {-1, 7, LEAST, MOST}) {
            refused("count(" + what + ")", OUT_OF_RANGE, x -> x.count(what));
        }
    }

    // ---- water

    private static void pour() {
        allowed("pour(0, 0)", 0, x -> x.pour(0, 0));
        allowed("pour(11, 100000)", 100000, x -> x.pour(11, 100000));
        for (int cell : NO_CELLS) {
            refused("pour(" + cell + ", 1)", NO_SUCH, x -> x.pour(cell, 1));
            refused("pour(" + cell + ", 100001)", NO_SUCH, x -> x.pour(cell, 100001));
        }
        for (int amount : new int[] {-1, 100001, LEAST, MOST}) {
            refused("pour(0, " + amount + ")", OUT_OF_RANGE, x -> x.pour(0, amount));
        }
    }

    private static void limitOfPouring() {
        Past nearly = () -> Made.tank(999999);
        allowed("pour(0, 1) up to 1000000", nearly, 1000000, x -> x.pour(0, 1) + x.balance(1));
        refused("pour(0, 2) up to 1000001", nearly, NOT_NOW, x -> x.pour(0, 2));
        refused("pour(0, 100000)", nearly, NOT_NOW, x -> x.pour(0, 100000));
        refused("pour(0, 100001) at the limit", nearly, OUT_OF_RANGE, x -> x.pour(0, 100001));
        refused("pour(1, 2) at the limit", nearly, NO_SUCH, x -> x.pour(1, 2));
        Past full = () -> Made.tank(1000000);
        allowed("pour(0, 0) at 1000000", full, 1000000, x -> x.pour(0, 0) + x.balance(1));
        refused("pour(0, 1) at 1000000", full, NOT_NOW, x -> x.pour(0, 1));
        allowed("what was taken leaves room", full, 1000000, x -> x.take(0, 7) * 0 + x.pour(0, 7) + x.balance(1));
        Past nine = () -> Made.tank(900000);
        allowed("pour(0, 100000) up to 1000000", nine, 0, x -> x.pour(0, 100000));
        refused("pour(0, 100000) up to 1000001", () -> Made.tank(900001), NOT_NOW, x -> x.pour(0, 100000));
        allowed("lost water does not count", LakeLevels::new, 1200000, x -> {
            x.setDrain(0, true);
            for (int i = 0; i < 12; i++) {
                x.pour(0, 100000);
            }
            return x.balance(2);
        });
    }

    private static void rain() {
        allowed("rain(0)", 0, x -> x.rain(0));
        // All but the room of both lakes that are left, 10 and 5, goes into the sea.
        allowed("rain(1000)", 12000 - 10 - 5, x -> x.rain(1000));
        for (int amount : new int[] {-1, 1001, LEAST, MOST}) {
            refused("rain(" + amount + ")", OUT_OF_RANGE, x -> x.rain(amount));
        }
    }

    /** One lake that could take up just so much more. */
    private static LakeLevels wideTank(int columns, int rows, int left) {
        LakeLevels x = Made.land(columns, rows);
        for (int i = 0; i < 9; i++) {
            x.pour(0, 100000);
        }
        x.pour(columns * rows - 1, 100000 - left);
        return x;
    }

    private static void limitOfRain() {
        allowed("rain(1000) up to 1000000", () -> wideTank(6, 6, 36000), 1000000, x -> x.rain(1000) + x.balance(1));
        allowed("rain(1) up to 1000000", () -> wideTank(6, 6, 36), 1000000, x -> x.rain(1) + x.balance(1));
        allowed("rain(0) at 1000000", () -> wideTank(6, 6, 0), 1000000, x -> x.rain(0) + x.balance(1));
        Check.dueThrow("rain(1000) up to 1000001", NOT_NOW, () -> wideTank(6, 6, 35999).rain(1000));
        Check.dueThrow("rain(1) up to 1000001", NOT_NOW, () -> wideTank(6, 6, 35).rain(1));
        allowed("rain(1000) on 6 cells", () -> wideTank(3, 2, 6000), 1000000, x -> x.rain(1000) + x.balance(1));
        refused("rain(1000) on 6 cells", () -> wideTank(3, 2, 5999), NOT_NOW, x -> x.rain(1000));
        refused("rain(1) on 6 cells", () -> wideTank(3, 2, 5), NOT_NOW, x -> x.rain(1));
        refused("rain(1001) on 6 cells", () -> wideTank(3, 2, 5), OUT_OF_RANGE, x -> x.rain(1001));
    }

    private static void evaporate() {
        allowed("evaporate(0)", 0, x -> x.evaporate(0));
        allowed("evaporate(100)", 19, x -> x.evaporate(100));
        allowed("100 rounds are made", () -> Made.tank(101), 100, x -> x.evaporate(100));
        for (int rounds : new int[] {-1, 101, LEAST, MOST}) {
            refused("evaporate(" + rounds + ")", OUT_OF_RANGE, x -> x.evaporate(rounds));
        }
    }

    /** The lakes of Made.coast() have 16 and 3. */
    private static void take() {
        allowed("take(0, 0)", 2, x -> x.take(0, 0));
        allowed("take(0, 16)", 3, x -> x.take(0, 16));
        allowed("take(1, 3)", 2, x -> x.take(1, 3));
        for (int lake : new int[] {-1, 2, 12, LEAST, MOST}) {
            refused("take(" + lake + ", 0)", NO_SUCH, x -> x.take(lake, 0));
            refused("take(" + lake + ", -1)", NO_SUCH, x -> x.take(lake, -1));
        }
        for (int amount : new int[] {-1, 17, LEAST, MOST}) {
            refused("take(0, " + amount + ")", OUT_OF_RANGE, x -> x.take(0, amount));
        }
        refused("take(1, 4)", OUT_OF_RANGE, x -> x.take(1, 4));
        allowed("take(0, 0) from a dry lake", LakeLevels::new, 1, x -> x.take(0, 0));
        refused("take(0, 1) from a dry lake", LakeLevels::new, OUT_OF_RANGE, x -> x.take(0, 1));
        refused("take(0, 0) without a lake", () -> Made.of("21:4,0;d1"), NO_SUCH, x -> x.take(0, 0));
    }

    private static void balance() {
        int[] due = {31, 19, 7, 5};
        for (int what = 0; what <= 3; what++) {
            int asked = what;
            allowed("balance(" + what + ")", due[what], x -> x.balance(asked));
        }
        for (int what : new int[] {-1, 4, LEAST, MOST}) {
            refused("balance(" + what + ")", OUT_OF_RANGE, x -> x.balance(what));
        }
    }

    // ---- lakes

    private static void lake() {
        int[] due = {3, 8, 10, 1, 1, 1, 9, 10, 4, 0};
        for (int what = 0; what <= 9; what++) {
            int asked = what;
            allowed("lake(1, " + what + ")", due[what], x -> x.lake(1, asked));
        }
        for (int lake : new int[] {-1, 2, LEAST, MOST}) {
            refused("lake(" + lake + ", 0)", NO_SUCH, x -> x.lake(lake, 0));
            refused("lake(" + lake + ", 10)", NO_SUCH, x -> x.lake(lake, 10));
        }
        for (int what : new int[] {-1, 10, LEAST, MOST}) {
            refused("lake(0, " + what + ")", OUT_OF_RANGE, x -> x.lake(0, what));
        }
        refused("lake(0, 0) without a lake", () -> Made.of("21:4,0;d1"), NO_SUCH, x -> x.lake(0, 0));
    }

    private static void lakeCells() {
        allowed("lakeCells(0)", 0b1111001111, x -> x.lakeCells(0));
        allowed("lakeCells(1)", 1 << 10, x -> x.lakeCells(1));
        for (int lake : new int[] {-1, 2, LEAST, MOST}) {
            refused("lakeCells(" + lake + ")", NO_SUCH, x -> x.lakeCells(lake));
        }
    }

    private static void level() {
        allowed("level(0, 0)", 13, x -> x.level(0, 0));
        allowed("level(0, 1)", 2, x -> x.level(0, 1));
        for (int lake : new int[] {-1, 2, LEAST, MOST}) {
            refused("level(" + lake + ", 0)", NO_SUCH, x -> x.level(lake, 0));
            refused("level(" + lake + ", 2)", NO_SUCH, x -> x.level(lake, 2));
        }
        for (int part : new int[] {-1, 2, LEAST, MOST}) {
            refused("level(0, " + part + ")", OUT_OF_RANGE, x -> x.level(0, part));
        }
    }

    private static void depthAndCourse() {
        allowed("depth(0)", 6.5, x -> x.depth(0));
        allowed("depth(11)", 0.0, x -> x.depth(11));
        allowed("course(0)", 1, x -> x.course(0));
        allowed("course(11)", 1 << 11 | 1 << 5, x -> x.course(11));
        for (int cell : NO_CELLS) {
            refused("depth(" + cell + ")", NO_SUCH, x -> x.depth(cell));
            refused("course(" + cell + ")", NO_SUCH, x -> x.course(cell));
        }
    }

    // ---- what if, text and state

    private static void whatIf() {
        allowed("amountFor(11, 0)", 0, x -> x.amountFor(11, 0));
        allowed("amountFor(0, 11)", -1, x -> x.amountFor(0, 11));
        for (int cell : NO_CELLS) {
            refused("amountFor(" + cell + ", 0)", NO_SUCH, x -> x.amountFor(cell, 0));
            refused("amountFor(0, " + cell + ")", NO_SUCH, x -> x.amountFor(0, cell));
        }
        allowed("withoutGate(11, 5)", 0, x -> x.withoutGate(11, 5));
        for (int[] pair : NO_NEIGHBORS) {
            String call = "withoutGate(" + pair[0] + ", " + pair[1] + ")";
            refused(call, NO_SUCH, x -> x.withoutGate(pair[0], pair[1]));
        }
    }

    private static LakeLevels withText(int length) {
        LakeLevels x = Made.coast();
        Made.write(x, Made.COAST + (length == 150 ? ";d01" : ";d1") + ";d1".repeat(34));
        return x;
    }

    private static void append() {
        int length = Made.COAST.length();
        allowed("append(0)", length + 1, x -> x.append(0));
        allowed("append(127)", length + 1, x -> x.append(127));
        for (int value : new int[] {-1, 128, LEAST, MOST}) {
            refused("append(" + value + ")", OUT_OF_RANGE, x -> x.append(value));
            refused("append(" + value + ") to 150 bytes", () -> withText(150), OUT_OF_RANGE, x -> x.append(value));
        }
        allowed("append('1') to 149 bytes", () -> withText(149), 150, x -> x.append('1'));
        for (int value : new int[] {0, '1', 127}) {
            refused("append(" + value + ") to 150 bytes", () -> withText(150), NOT_NOW, x -> x.append(value));
        }
        allowed("append('1') after clearText()", () -> withText(150), 1, x -> x.clearText() * 0 + x.append('1'));
    }

    /** A syntax error is no exception, but nothing changes either. */
    private static void parse() {
        for (String text : new String[] {"", "6", "62", "22:1,2,3,4;d4", "22:1,2,3,4;d3;", "22:1,2,3,4;g0,1,"}) {
            LakeLevels tried = Made.coast();
            LakeLevels left = Made.coast();
            Made.write(tried, text);
            Made.write(left, text);
            Check.due("parse() of " + text, tried.parse() <= -10 ? 1 : 0, 1);
            Check.dueText("the state behind parse() of " + text, State.toTheEnd(tried), State.toTheEnd(left));
        }
    }

    private static LakeLevels undone(int times) {
        LakeLevels x = Made.coast();
        for (int i = 0; i < times; i++) {
            x.undo();
        }
        return x;
    }

    private static void undo() {
        allowed("undo() of the last state", () -> undone(3), 0, LakeLevels::undo);
        refused("undo() without a state", () -> undone(4), NOT_NOW, LakeLevels::undo);
        refused("undo() of a new object", LakeLevels::new, NOT_NOW, LakeLevels::undo);
    }

    private static void asks(String call, Step step) {
        LakeLevels tried = Made.coast();
        LakeLevels left = Made.coast();
        step.make(tried);
        Check.dueText("the state behind " + call, State.toTheEnd(tried), State.toTheEnd(left));
    }

    private static void askingChangesNothing() {
        asks("cell(0, 3)", x -> x.cell(0, 3));
        asks("between(4, 10, true)", x -> x.between(4, 10, true));
        asks("count(3)", x -> x.count(3));
        asks("balance(0)", x -> x.balance(0));
        asks("lake(0, 0)", x -> x.lake(0, 0));
        asks("lakeCells(0)", x -> x.lakeCells(0));
        asks("level(0, 0)", x -> x.level(0, 0));
        asks("depth(0)", x -> x.depth(0));
        asks("deepest()", LakeLevels::deepest);
        asks("course(11)", x -> x.course(11));
        asks("amountFor(10, 9)", x -> x.amountFor(10, 9));
        asks("amountFor(0, 11)", x -> x.amountFor(0, 11));
        asks("rainToJoin()", LakeLevels::rainToJoin);
        asks("withoutGate(4, 10)", x -> x.withoutGate(4, 10));
        asks("withoutGate(0, 1)", x -> x.withoutGate(0, 1));
        asks("digest()", LakeLevels::digest);
    }
}
