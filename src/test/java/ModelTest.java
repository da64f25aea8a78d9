/** Long mixed runs of calls, ordinary and wrong ones, answered by LakeLevels and by PlainModel alike. */
public final class ModelTest {
    private static final int RUNS = 400;
    /** The document promises nothing behind 512 calls; the longest step, a text, makes some 160. */
    private static final int CALLS = 345;

    private interface Answer {
        Object give();
    }

    private final LakeLevels real = new LakeLevels();
    private final PlainModel model = new PlainModel();
    private final StringBuilder told = new StringBuilder();
    private final int run;
    private final int kind;
    private long state;
    private int calls;

    private ModelTest(int run) {
        this.run = run;
        this.kind = run % 4;
        this.state = 88172645463325252L + 7919L * run;
    }

    public static void main(String[] args) {
        int runs = args.length > 0 ? Integer.parseInt(args[0]) : RUNS;
        for (int run = 0; run < runs && Check.allRight(); run++) {
            new ModelTest(run).go();
        }
        Check.end();
    }

    private void go() {
        shape();
        while (calls < CALLS && Check.allRight()) {
            step();
            compare("digest()", real::digest, model::digest);
        }
        if (!Check.allRight()) {
            System.out.println("run " + run + ":\n" + told);
        }
    }

    // ---- numbers

    /** An own generator, so that the runs are the same everywhere. */
    private int below(int bound) {
        state ^= state << 13;
        state ^= state >>> 7;
        state ^= state << 17;
        return (int) Math.floorMod(state >>> 8, (long) bound);
    }

    private int count(int what) {
        calls++;
        return real.count(what);
    }

    private int cells() {
        return count(0) * count(1);
    }

    private int someCell() {
        int odd = below(60);
        if (odd < 3) {
            return new int[] {-1, cells(), below(2) == 0 ? Integer.MAX_VALUE : Integer.MIN_VALUE}[odd];
        }
        return below(cells());
    }

    private int neighborOf(int cell) {
        int columns = count(0);
        return below(15) == 0 ? someCell() : cell + new int[] {1, -1, columns, -columns}[below(4)];
    }

    private int someHeight() {
        return below(40) == 0 ? new int[] {-2, 100, -1, 99}[below(4)] : below(kind == 3 ? 100 : 2 + 3 * kind);
    }

    private int someAmount() {
        switch (below(12)) {
            case 0: return new int[] {-1, 100001, 100000, 0}[below(4)];
            case 1: return below(5000);
            default: return below(below(3) == 0 ? 200 : 20);
        }
    }

    // ---- calls

    private void compare(String call, Answer got, Answer want) {
        calls++;
        told.append("  ").append(call);
        String answer = outcome(got);
        told.append(" = ").append(answer).append('\n');
        Check.dueText("run " + run + ": " + call, answer, outcome(want));
    }

    private static String outcome(Answer answer) {
        try {
            return "" + answer.give();
        } catch (RuntimeException e) {
            return "throws." + e.getClass().getSimpleName();
        }
    }

    private void shape() {
        int columns = 1 + below(6);
        int rows = 1 + below(6);
        compare("begin(" + columns + ", " + rows + ")",
                () -> real.begin(columns, rows), () -> model.begin(columns, rows));
        int seed = below(1000000);
        int highest = new int[] {1, 3, 9, 99}[kind];
        compare("random(" + seed + ", " + highest + ")",
                () -> real.random(seed, highest), () -> model.random(seed, highest));
        for (int i = below(8); i > 0; i--) {
            setGate();
        }
        for (int i = below(3); i > 0; i--) {
            setDrain();
        }
    }

    private void step() {
        int choice = below(100);
        if (choice < 30) {
            addWater();
        } else if (choice < 50) {
            removeWater();
        } else if (choice < 62) {
            changeLandscape();
        } else if (choice < 85) {
            ask();
        } else if (choice < 92) {
            askWhatIf();
        } else if (choice < 96) {
            compare("undo()", real::undo, model::undo);
        } else {
            writeText();
        }
    }

    private void addWater() {
        if (below(3) == 0) {
            int amount = below(12) == 0 ? new int[] {-1, 1001, 1000, 200}[below(4)] : below(8);
            compare("rain(" + amount + ")", () -> real.rain(amount), () -> model.rain(amount));
        } else {
            int cell = someCell();
            int amount = someAmount();
            compare("pour(" + cell + ", " + amount + ")",
                    () -> real.pour(cell, amount), () -> model.pour(cell, amount));
        }
    }

    private void removeWater() {
        if (below(3) == 0) {
            int rounds = below(12) == 0 ? new int[] {-1, 101, 100, 30}[below(4)] : below(6);
            compare("evaporate(" + rounds + ")", () -> real.evaporate(rounds), () -> model.evaporate(rounds));
        } else {
            int lakes = count(3);
            int lake = below(20) == 0 ? below(3) * lakes - 1 : below(lakes + 1);
            int volume = lake >= 0 && lake < lakes ? real.lake(lake, 0) : 0;
            calls++;
            int amount = below(20) == 0 ? volume + 1 - 2 * below(2) : below(volume + 1);
            compare("take(" + lake + ", " + amount + ")",
                    () -> real.take(lake, amount), () -> model.take(lake, amount));
        }
    }

    private void changeLandscape() {
        switch (below(8)) {
            case 0:
                setDrain();
                break;
            case 1:
            case 2:
            case 3:
                setGate();
                break;
            case 4:
                int seed = below(30) == 0 ? 1000001 * below(2) - 1 : below(1000000);
                int highest = below(30) == 0 ? 101 * below(2) - 1 : new int[] {1, 3, 9, 99}[kind];
                compare("random(" + seed + ", " + highest + ")",
                        () -> real.random(seed, highest), () -> model.random(seed, highest));
                break;
            case 5:
                if (below(4) == 0) {
                    int columns = below(8);
                    int rows = below(8);
                    compare("begin(" + columns + ", " + rows + ")",
                            () -> real.begin(columns, rows), () -> model.begin(columns, rows));
                }
                break;
            default:
                int cell = someCell();
                int height = someHeight();
                compare("setHeight(" + cell + ", " + height + ")",
                        () -> real.setHeight(cell, height), () -> model.setHeight(cell, height));
        }
    }

    private void setDrain() {
        int cell = someCell();
        boolean drain = below(2) == 0;
        compare("setDrain(" + cell + ", " + drain + ")",
                () -> real.setDrain(cell, drain) ? 1 : 0, () -> model.setDrain(cell, drain));
    }

    private void setGate() {
        int a = someCell();
        int b = neighborOf(a);
        int height = below(4) == 0 ? LakeLevels.NONE : someHeight() + below(3);
        compare("setGate(" + a + ", " + b + ", " + height + ")",
                () -> real.setGate(a, b, height), () -> model.setGate(a, b, height));
    }

    private void ask() {
        int cell = someCell();
        int other = neighborOf(cell);
        int lake = below(count(3) + 2) - (below(9) == 0 ? 1 : 0);
        int what = below(12) - 1;
        boolean threshold = below(2) == 0;
        String arguments = cell + ", " + other + ", " + lake + ", " + what;
        switch (below(10)) {
            case 0: compare("cell of " + arguments, () -> real.cell(cell, what), () -> model.cell(cell, what)); break;
            case 1: compare("between(" + cell + ", " + other + ", " + threshold + ")",
                    () -> real.between(cell, other, threshold), () -> model.between(cell, other, threshold)); break;
            case 2: compare("count of " + arguments, () -> real.count(what), () -> model.count(what)); break;
            case 3: compare("balance of " + arguments, () -> real.balance(what), () -> model.balance(what)); break;
            case 4: compare("lake of " + arguments, () -> real.lake(lake, what), () -> model.lake(lake, what)); break;
            case 5: compare("lakeCells of " + arguments, () -> real.lakeCells(lake), () -> model.lakeCells(lake)); break;
            case 6: compare("level of " + arguments, () -> real.level(lake, what), () -> model.level(lake, what)); break;
            case 7: compare("depth of " + arguments, () -> real.depth(cell), () -> model.depth(cell)); break;
            case 8: compare("deepest()", real::deepest, model::deepest); break;
            default: compare("course of " + arguments, () -> real.course(cell), () -> model.course(cell));
        }
    }

    private void askWhatIf() {
        int a = someCell();
        int b = below(4) == 0 ? neighborOf(a) : someCell();
        int near = neighborOf(a);
        switch (below(6)) {
            case 0:
                compare("rainToJoin()", real::rainToJoin, model::rainToJoin);
                break;
            case 1:
            case 2:
                compare("amountFor(" + a + ", " + b + ")",
                        () -> real.amountFor(a, b), () -> model.amountFor(a, b));
                break;
            default:
                compare("withoutGate(" + a + ", " + near + ")",
                        () -> real.withoutGate(a, near), () -> model.withoutGate(a, near));
        }
    }

    private void writeText() {
        compare("clearText()", real::clearText, model::clearText);
        String text = someText();
        for (int i = 0; i < text.length(); i++) {
            int value = text.charAt(i);
            calls++;
            Check.dueText("run " + run + ": append(" + value + ")",
                    outcome(() -> real.append(value)), outcome(() -> model.append(value)));
        }
        if (below(20) == 0) {
            int value = below(2) == 0 ? -1 : 128;
            compare("append(" + value + ")", () -> real.append(value), () -> model.append(value));
        }
        compare("parse() of " + text, real::parse, model::parse);
    }

    private String someText() {
        int columns = 1 + below(6);
        int rows = 1 + below(6);
        StringBuilder text = new StringBuilder().append(columns).append(rows).append(':');
        for (int cell = 0; cell < columns * rows; cell++) {
            text.append(cell == 0 ? "" : ",").append(below(20) == 0 ? "0" : "").append(below(kind == 3 ? 100 : 9));
        }
        for (int items = below(5); items > 0; items--) {
            int cell = below(columns * rows + (below(6) == 0 ? 3 : 0));
            int other = cell + new int[] {1, -1, columns, -columns}[below(4)];
            if (below(3) == 0) {
                text.append(";d").append(cell);
            } else {
                text.append(";g").append(cell).append(',').append(Math.max(other, 0)).append(',').append(below(12));
            }
        }
        for (int faults = below(3) == 0 ? 1 + below(2) : 0; faults > 0 && text.length() > 1; faults--) {
            spoil(text);
        }
        return text.toString();
    }

    private void spoil(StringBuilder text) {
        int at = below(text.length());
        char sign = "0123456789,;:dg x".charAt(below(17));
        switch (below(4)) {
            case 0: text.setLength(at); break;
            case 1: text.setCharAt(at, sign); break;
            case 2: text.deleteCharAt(at); break;
            default: text.insert(at, sign);
        }
    }
}
