import java.util.ArrayDeque;

/** The states that are saved, the one that is dropped, what a saved state contains, and the hash of the state. */
public final class StateTest {
    private static final Class<IllegalStateException> NOT_NOW = IllegalStateException.class;
    /** Six basins between gates. */
    private static final String SIX = "61:0,0,0,0,0,0;g0,1,3;g1,2,3;g2,3,3;g3,4,3;g4,5,3";

    private interface Step {
        double make(LakeLevels x);
    }

    private StateTest() {
    }

    public static void main(String[] args) {
        eachUndoable();
        thoughNothingChanges();
        notUndoable();
        theOldestIsDropped();
        backAndForth();
        allButTheText();
        partsAreRestored();
        madeAnew();
        otherLakesBetween();
        digests();
        Check.end();
    }

    private static void dueUndone(String call, Step step) {
        LakeLevels x = Made.coast();
        String before = State.inFull(x);
        step.make(x);
        Check.due(call + ": 4 states, and one is used", x.undo(), 3);
        Check.dueText(call + ": undone", State.inFull(x), before);

        LakeLevels one = Made.of("21:0,0;g0,1,4");
        one.undo();
        step.make(one);
        Check.due(call + ": the one state", one.undo(), 0);
        Check.dueThrow(call + ": no more", NOT_NOW, one::undo);
    }

    private static void eachUndoable() {
        dueUndone("begin", x -> x.begin(6, 6));
        dueUndone("setHeight", x -> x.setHeight(0, 99));
        dueUndone("setDrain", x -> x.setDrain(0, true) ? 1 : 0);
        dueUndone("random", x -> x.random(3, 99));
        dueUndone("pour", x -> x.pour(0, 100000));
        dueUndone("rain", x -> x.rain(1000));
        dueUndone("evaporate", x -> x.evaporate(100));
        dueUndone("take", x -> x.take(0, x.lake(0, 0)));
        dueUndone("parse", LakeLevels::parse);
        LakeLevels x = Made.coast();
        String before = State.inFull(x);
        x.setGate(4, 10, LakeLevels.NONE);
        Check.due("setGate: 4 states, and one is used", x.undo(), 3);
        Check.dueText("setGate: undone", State.inFull(x), before);
        Check.due("setGate: the gate is there again", x.between(10, 4, false), 9);
    }

    /** "saves the state from before the call, even if the call changes nothing" */
    private static void thoughNothingChanges() {
        Step[] steps = {
            x -> x.begin(1, 1), x -> x.setHeight(0, 0), x -> x.setDrain(0, false) ? 1 : 0, x -> x.random(0, 0),
            x -> x.pour(0, 0), x -> x.rain(0), x -> x.evaporate(0), x -> x.take(0, 0),
        };
        for (int i = 0; i < steps.length; i++) {
            LakeLevels x = new LakeLevels();
            steps[i].make(x);
            Check.due("a state is saved by step " + i, x.undo(), 0);
            Check.dueThrow("just one by step " + i, NOT_NOW, x::undo);
        }
        LakeLevels even = Made.land(2, 1);
        even.setGate(0, 1, LakeLevels.NONE);
        Check.due("by setGate(0, 1, NONE)", even.undo(), 1);
        LakeLevels parsed = Made.of("11:0");
        Check.due("by parse()", parsed.undo(), 0);
    }

    private static void notUndoable() {
        Step[] steps = {
            x -> x.append(';'), LakeLevels::clearText, x -> x.clearText() + x.parse(), LakeLevels::deepest,
            LakeLevels::rainToJoin, LakeLevels::digest, x -> x.amountFor(0, 11), x -> x.withoutGate(4, 10),
        };
        for (int i = 0; i < steps.length; i++) {
            LakeLevels x = new LakeLevels();
            Made.write(x, Made.COAST);
            x.parse();
            x.undo();
            x.begin(6, 2);
            steps[i].make(x);
            Check.due("no state is saved by step " + i, x.undo(), 0);
        }
    }

    /** "at most 4 states are saved, and the oldest is dropped first" */
    private static void theOldestIsDropped() {
        for (int calls = 1; calls <= 6; calls++) {
            LakeLevels x = new LakeLevels();
            for (int i = 0; i < calls; i++) {
                x.pour(0, 1);
            }
            int saved = Math.min(calls, 4);
            for (int left = saved - 1; left >= 0; left--) {
                Check.due("of " + calls + " calls: undo()", x.undo(), left);
                Check.due("of " + calls + " calls: volume", x.lake(0, 0), calls - saved + left);
            }
            Check.dueThrow("of " + calls + " calls: no more", NOT_NOW, x::undo);
            Check.due("of " + calls + " calls: the volume stays", x.lake(0, 0), calls - saved);
        }
    }

    /** Whether undo() and other calls take turns in any way. */
    private static void backAndForth() {
        for (int pattern = 0; pattern < 64; pattern++) {
            LakeLevels x = new LakeLevels();
            ArrayDeque<Integer> saved = new ArrayDeque<>();
            int volume = 0;
            for (int i = 0; i < 60; i++) {
                if ((pattern >> i % 6 & 1) == 0) {
                    saved.addLast(volume);
                    if (saved.size() > 4) {
                        saved.removeFirst();
                    }
                    volume += i;
                    x.pour(0, i);
                } else if (saved.isEmpty()) {
                    Check.dueThrow("pattern " + pattern, NOT_NOW, x::undo);
                } else {
                    volume = saved.removeLast();
                    Check.due("pattern " + pattern + ": undo()", x.undo(), saved.size());
                }
                Check.due("pattern " + pattern + ": volume", x.lake(0, 0), volume);
            }
        }
    }

    /** "The saved state contains everything except the landscape text." */
    private static void allButTheText() {
        LakeLevels x = Made.of("21:1,2");
        x.pour(0, 3);
        x.append(';');
        x.undo();
        Check.due("append is not undone", x.parse(), -10 - 7);
        x.append('d');
        x.append('1');
        x.undo();
        Check.due("what was appended is there", x.parse(), 1);
        Check.due("its drain", x.cell(1, 1), 1);
        x.clearText();
        x.undo();
        Check.due("clearText is not undone", x.parse(), -10);
        Check.due("no text", x.clearText(), 0);
    }

    /** A lake that was joined from joined ones has its parts again, and their parts. */
    private static void partsAreRestored() {
        LakeLevels x = Made.of(Made.TWO_RIDGES);
        x.pour(4, 16);
        LakeLevels never = Made.of(Made.TWO_RIDGES);
        never.pour(4, 16);
        x.take(0, 16);
        x.begin(1, 1);
        x.random(1, 99);
        x.undo();
        x.undo();
        x.undo();
        int[] lakes = {1, 3, 3};
        int[] amounts = {1, 2, 16};
        for (int i = 0; i < amounts.length; i++) {
            Check.due("take(0, " + amounts[i] + ")", x.take(0, amounts[i]), lakes[i]);
            never.take(0, amounts[i]);
            Check.dueText("as if nothing had been undone", State.inFull(x), State.inFull(never));
            x.undo();
            never.undo();
        }
    }

    private static LakeLevels sixJoined() {
        LakeLevels x = Made.of(SIX);
        x.pour(0, 19);
        return x;
    }

    private interface Past {
        LakeLevels make();
    }

    /** begin() and parse() leave nothing of what was; undo() brings all of it back. */
    private static void madeAnew() {
        Past[] pasts = {Made::coast, StateTest::sixJoined, () -> Made.tank(7), () -> Made.land(3, 4),
            () -> Made.of("31:99,99,99;g0,1,99;d2")};
        for (Past past : pasts) {
            String before = State.inFull(past.make());
            for (String text : new String[] {SIX, Made.COAST, "11:0", "16:1,2,3,2,1,0;d1"}) {
                LakeLevels x = past.make();
                Made.write(x, text);
                x.parse();
                Check.dueText("parse() of " + text, State.inFull(x), State.inFull(Made.of(text)));
                x.undo();
                Check.dueText("parse() of " + text + " undone", State.inFull(x), before);
            }
            LakeLevels x = past.make();
            x.begin(2, 5);
            Check.dueText("begin(2, 5)", State.inFull(x), State.inFull(Made.land(2, 5)));
            x.undo();
            Check.dueText("begin(2, 5) undone", State.inFull(x), before);
        }
    }

    private static void otherLakesBetween() {
        LakeLevels x = Made.of(Made.TWO_RIDGES);
        x.pour(4, 16);
        String before = State.inFull(x);
        Made.write(x, SIX);
        x.parse();
        Check.due("a basin of its own", x.lake(3, 9), 0);
        x.pour(0, 19);
        x.undo();
        x.undo();
        Check.dueText("undone", State.inFull(x), before);
        x.take(0, 8);
        for (int lake = 0; lake < 3; lake++) {
            Check.due("volume " + lake, x.lake(lake, 0), new int[] {0, 3, 5}[lake]);
        }
        LakeLevels six = sixJoined();
        Made.write(six, Made.TWO_RIDGES);
        six.parse();
        six.pour(4, 16);
        six.undo();
        six.undo();
        six.take(0, 3);
        Check.due("all six part in turn", six.count(3), 6);
        Check.due("the first gives", six.lake(0, 0), 1);
    }

    // ---- the hash

    private static long hash;

    private static void mix(long value) {
        hash = 31 * hash + value;
    }

    /** The hash as the document tells it, from the other answers. */
    private static long hashOf(LakeLevels x, int textLength, int savedStates) {
        hash = 3049;
        mix(textLength);
        for (int what = 0; what <= 6; what++) {
            mix(x.count(what));
        }
        for (int cell = 0; cell < x.count(0) * x.count(1); cell++) {
            for (int what = 0; what <= 5; what++) {
                mix(x.cell(cell, what));
            }
        }
        for (int lake = 0; lake < x.count(3); lake++) {
            for (int what = 0; what <= 9; what++) {
                mix(x.lake(lake, what));
            }
            mix(x.lakeCells(lake));
            mix(x.level(lake, 0));
            mix(x.level(lake, 1));
        }
        for (int what = 0; what <= 3; what++) {
            mix(x.balance(what));
        }
        mix(savedStates);
        return hash;
    }

    private static void digests() {
        LakeLevels x = new LakeLevels();
        Check.dueBits("a new object", x.digest(), hashOf(x, 0, 0));
        LakeLevels coast = Made.coast();
        Check.dueBits("the coast", coast.digest(), hashOf(coast, Made.COAST.length(), 4));
        coast.undo();
        coast.clearText();
        Check.dueBits("undone", coast.digest(), hashOf(coast, 0, 3));
        LakeLevels sea = Made.of("21:4,0;d1");
        sea.pour(0, 9);
        Check.dueBits("no lakes", sea.digest(), hashOf(sea, 9, 2));
        LakeLevels wide = Made.of("66:" + "0,".repeat(35) + "0");
        wide.pour(20, 7);
        Check.dueBits("36 cells", wide.digest(), hashOf(wide, 74, 2));
        LakeLevels parts = Made.of(Made.TWO_RIDGES);
        parts.pour(2, 5);
        parts.pour(4, 6);
        Check.dueBits("joined", parts.digest(), hashOf(parts, Made.TWO_RIDGES.length(), 3));
    }
}
