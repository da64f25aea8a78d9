import java.util.ArrayDeque;
import java.util.ArrayList;
import java.util.Collections;
import java.util.HashMap;
import java.util.List;
import java.util.Map;
import java.util.TreeSet;

/**
 * The document once more, word by word and without regard to speed, for comparison with LakeLevels.
 * It shares no code with it. Arguments are checked as the document lists the exceptions.
 */
final class PlainModel {
    static final int NONE = -1;

    private static final class Lake {
        final TreeSet<Integer> cells = new TreeSet<>();
        int volume;
        int lowestVolume;
        int basins = 1;
        Lake one;
        Lake two;

        Lake copy() {
            Lake lake = new Lake();
            lake.cells.addAll(cells);
            lake.volume = volume;
            lake.lowestVolume = lowestVolume;
            lake.basins = basins;
            lake.one = one == null ? null : one.copy();
            lake.two = two == null ? null : two.copy();
            return lake;
        }
    }

    private record Pass(int a, int b, int threshold) { }

    private record Fraction(long top, long bottom) {
        static Fraction of(long top, long bottom) {
            long x = Math.abs(top);
            long y = bottom;
            while (y != 0) {
                long rest = x % y;
                x = y;
                y = rest;
            }
            return new Fraction(top / x, bottom / x);
        }

        Fraction minus(long whole) {
            return of(top - whole * bottom, bottom);
        }

        boolean isAbove(Fraction other) {
            return top * other.bottom > other.top * bottom;
        }
    }

    private int w = 1;
    private int h = 1;
    private int[] height = new int[1];
    private boolean[] drain = new boolean[1];
    private Map<Integer, Integer> gates = new HashMap<>();
    private List<Lake> lakes = new ArrayList<>();
    private int[] basin = new int[1];
    private int basinCount;
    private long lost;
    private long evaporated;
    private ArrayDeque<PlainModel> saved = new ArrayDeque<>();
    private StringBuilder text = new StringBuilder();

    PlainModel() {
        findBasins();
    }

    // ---- copies

    private void become(PlainModel other) {
        w = other.w;
        h = other.h;
        height = other.height.clone();
        drain = other.drain.clone();
        gates = new HashMap<>(other.gates);
        basin = other.basin.clone();
        basinCount = other.basinCount;
        lost = other.lost;
        evaporated = other.evaporated;
        lakes = new ArrayList<>();
        for (Lake lake : other.lakes) {
            lakes.add(lake.copy());
        }
    }

    private PlainModel copy() {
        PlainModel copy = new PlainModel();
        copy.become(this);
        return copy;
    }

    private void save() {
        saved.addLast(copy());
        if (saved.size() > 4) {
            saved.removeFirst();
        }
    }

    // ---- the landscape

    private int cells() {
        return w * h;
    }

    private boolean isCell(int cell) {
        return cell >= 0 && cell < cells();
    }

    private boolean areNeighbors(int a, int b) {
        if (!isCell(a) || !isCell(b)) {
            return false;
        }
        return Math.abs(a / w - b / w) + Math.abs(a % w - b % w) == 1;
    }

    private List<Integer> neighbors(int cell) {
        List<Integer> found = new ArrayList<>();
        for (int other = 0; other < cells(); other++) {
            if (areNeighbors(cell, other)) {
                found.add(other);
            }
        }
        return found;
    }

    private static int gateKey(int a, int b) {
        return 100 * Math.min(a, b) + Math.max(a, b);
    }

    private int gate(int a, int b) {
        return gates.getOrDefault(gateKey(a, b), NONE);
    }

    private int threshold(int a, int b) {
        return Math.max(gate(a, b), Math.max(height[a], height[b]));
    }

    private boolean canRun(int from, int to) {
        return threshold(from, to) == height[from];
    }

    private void spread(int cell, TreeSet<Integer> plain) {
        if (plain.add(cell)) {
            for (int next : neighbors(cell)) {
                if (height[next] == height[cell] && canRun(cell, next)) {
                    spread(next, plain);
                }
            }
        }
    }

    private TreeSet<Integer> plain(int cell) {
        TreeSet<Integer> plain = new TreeSet<>();
        spread(cell, plain);
        return plain;
    }

    private boolean hasDrain(TreeSet<Integer> plain) {
        return plain.stream().anyMatch(cell -> drain[cell]);
    }

    /** Where the way of a plain leads; NONE for a plain with a drain and for a pit. */
    private int way(TreeSet<Integer> plain) {
        if (hasDrain(plain)) {
            return NONE;
        }
        for (int cell : plain) {
            int best = NONE;
            for (int next : neighbors(cell)) {
                if (canRun(cell, next) && height[next] < height[cell]
                        && (best == NONE || height[next] < height[best])) {
                    best = next;
                }
            }
            if (best != NONE) {
                return best;
            }
        }
        return NONE;
    }

    /** The lowest cell of the pit to which a cell belongs; NONE for the sea. */
    private int pitOf(int cell) {
        TreeSet<Integer> plain = plain(cell);
        int way = way(plain);
        if (way != NONE) {
            return pitOf(way);
        }
        return hasDrain(plain) ? NONE : plain.first();
    }

    private boolean isInPit(int cell) {
        TreeSet<Integer> plain = plain(cell);
        return !hasDrain(plain) && way(plain) == NONE;
    }

    private void findBasins() {
        TreeSet<Integer> pits = new TreeSet<>();
        int[] pit = new int[cells()];
        for (int cell = 0; cell < cells(); cell++) {
            pit[cell] = pitOf(cell);
            if (pit[cell] != NONE) {
                pits.add(pit[cell]);
            }
        }
        List<Integer> order = new ArrayList<>(pits);
        basinCount = order.size();
        basin = new int[cells()];
        lakes = new ArrayList<>();
        for (int i = 0; i < basinCount; i++) {
            lakes.add(new Lake());
        }
        for (int cell = 0; cell < cells(); cell++) {
            basin[cell] = pit[cell] == NONE ? NONE : order.indexOf(pit[cell]);
            if (basin[cell] != NONE) {
                lakes.get(basin[cell]).cells.add(cell);
            }
        }
        sortLakes();
    }

    private void sortLakes() {
        lakes.sort((x, y) -> Integer.compare(x.cells.first(), y.cells.first()));
    }

    private interface Change {
        void make();
    }

    private void change(Change change) {
        List<int[]> water = new ArrayList<>();
        for (Lake lake : lakes) {
            int place = lake.cells.first();
            for (int cell : lake.cells) {
                if (height[cell] < height[place]) {
                    place = cell;
                }
            }
            water.add(new int[] {place, lake.volume});
        }
        change.make();
        findBasins();
        for (int[] some : water) {
            pourAtCell(some[0], some[1]);
        }
    }

    // ---- lakes

    private Lake lakeOf(int cell) {
        for (Lake lake : lakes) {
            if (lake.cells.contains(cell)) {
                return lake;
            }
        }
        return null;
    }

    private Pass pass(Lake lake) {
        Pass best = null;
        for (int a : lake.cells) {
            for (int b : neighbors(a)) {
                if (!lake.cells.contains(b) && (best == null || threshold(a, b) < best.threshold)) {
                    best = new Pass(a, b, threshold(a, b));
                }
            }
        }
        return best;
    }

    private int capacity(Lake lake) {
        Pass pass = pass(lake);
        if (pass == null) {
            return NONE;
        }
        int sum = 0;
        for (int cell : lake.cells) {
            if (height[cell] < pass.threshold) {
                sum += pass.threshold - height[cell];
            }
        }
        return sum;
    }

    private boolean isFull(Lake lake) {
        return pass(lake) != null && lake.volume == capacity(lake);
    }

    private int pourAtCell(int cell, int amount) {
        Lake lake = lakeOf(cell);
        int gone = lake == null ? amount : pourInto(lake, amount);
        lost += gone;
        return gone;
    }

    private int pourInto(Lake lake, int amount) {
        int capacity = capacity(lake);
        int added = capacity == NONE ? amount : Math.min(amount, capacity - lake.volume);
        lake.volume += added;
        int left = amount - added;
        if (left == 0) {
            return 0;
        }
        Pass pass = pass(lake);
        Lake other = lakeOf(pass.b);
        if (other == null) {
            return left;
        }
        if (isFull(other) && pass(other).threshold == pass.threshold) {
            return pourInto(join(lake, other), left);
        }
        return pourInto(other, left);
    }

    private Lake join(Lake one, Lake two) {
        Lake joined = new Lake();
        joined.one = one;
        joined.two = two;
        joined.cells.addAll(one.cells);
        joined.cells.addAll(two.cells);
        joined.volume = one.volume + two.volume;
        joined.lowestVolume = capacity(one) + capacity(two);
        joined.basins = one.basins + two.basins;
        lakes.remove(one);
        lakes.remove(two);
        lakes.add(joined);
        sortLakes();
        return joined;
    }

    private void takeFrom(Lake lake, int amount) {
        if (lake.one == null || lake.volume - amount >= lake.lowestVolume) {
            lake.volume -= amount;
            return;
        }
        int rest = amount - (lake.volume - lake.lowestVolume);
        boolean oneIsLower = lake.one.cells.first() < lake.two.cells.first();
        Lake lower = oneIsLower ? lake.one : lake.two;
        Lake other = oneIsLower ? lake.two : lake.one;
        lakes.remove(lake);
        lakes.add(lower);
        lakes.add(other);
        lower.volume = capacity(lower);
        other.volume = capacity(other);
        sortLakes();
        int fromLower = Math.min(rest, lower.volume);
        takeFrom(lower, fromLower);
        takeFrom(other, rest - fromLower);
    }

    private Fraction levelOf(Lake lake) {
        List<Integer> heights = new ArrayList<>();
        for (int cell : lake.cells) {
            heights.add(height[cell]);
        }
        Collections.sort(heights);
        if (lake.volume == 0) {
            return Fraction.of(heights.get(0), 1);
        }
        long sum = 0;
        for (int count = 1; count <= heights.size(); count++) {
            sum += heights.get(count - 1);
            Fraction level = Fraction.of(lake.volume + sum, count);
            boolean reachesNext = count < heights.size() && level.minus(heights.get(count)).top > 0;
            if (!reachesNext) {
                return level;
            }
        }
        throw new AssertionError("a lake without a level");
    }

    private Fraction depthOf(int cell) {
        Lake lake = lakeOf(cell);
        Fraction depth = lake == null ? Fraction.of(0, 1) : levelOf(lake).minus(height[cell]);
        return depth.top > 0 ? depth : Fraction.of(0, 1);
    }

    private boolean isWet(int cell) {
        return depthOf(cell).top > 0;
    }

    private int wetCells() {
        int wet = 0;
        for (int cell = 0; cell < cells(); cell++) {
            wet += isWet(cell) ? 1 : 0;
        }
        return wet;
    }

    private long water() {
        long sum = 0;
        for (Lake lake : lakes) {
            sum += lake.volume;
        }
        return sum;
    }

    private static long bits(Iterable<Integer> cells) {
        long bits = 0;
        for (int cell : cells) {
            bits |= 1L << cell;
        }
        return bits;
    }

    // ---- arguments

    private void needCell(int cell) {
        if (!isCell(cell)) {
            throw new IndexOutOfBoundsException();
        }
    }

    private void needNeighbors(int a, int b) {
        if (!areNeighbors(a, b)) {
            throw new IndexOutOfBoundsException();
        }
    }

    private Lake needLake(int lake) {
        if (lake < 0 || lake >= lakes.size()) {
            throw new IndexOutOfBoundsException();
        }
        return lakes.get(lake);
    }

    private static void need(boolean fine) {
        if (!fine) {
            throw new IllegalArgumentException();
        }
    }

    // ---- the face

    int begin(int columns, int rows) {
        need(columns >= 1 && columns <= 6 && rows >= 1 && rows <= 6);
        save();
        lay(columns, rows);
        findBasins();
        return cells();
    }

    private void lay(int columns, int rows) {
        w = columns;
        h = rows;
        height = new int[w * h];
        drain = new boolean[w * h];
        gates.clear();
        lost = 0;
        evaporated = 0;
    }

    int setHeight(int cell, int to) {
        needCell(cell);
        need(to >= 0 && to <= 99);
        save();
        int before = height[cell];
        change(() -> height[cell] = to);
        return before;
    }

    int setDrain(int cell, boolean to) {
        needCell(cell);
        save();
        boolean before = drain[cell];
        change(() -> drain[cell] = to);
        return before ? 1 : 0;
    }

    int setGate(int a, int b, int to) {
        needNeighbors(a, b);
        need(to >= -1 && to <= 99);
        save();
        int before = gate(a, b);
        change(() -> gates.put(gateKey(a, b), to));
        return before;
    }

    int random(int seed, int highest) {
        need(seed >= 0 && seed <= 999999 && highest >= 0 && highest <= 99);
        save();
        change(() -> {
            long s = seed;
            for (int cell = 0; cell < cells(); cell++) {
                s = Math.floorMod(1103515245L * s + 12345L, 2147483648L);
                height[cell] = (int) Math.floorMod(Math.floorDiv(s, 65536L), (long) highest + 1L);
            }
        });
        return basinCount;
    }

    int cell(int cell, int what) {
        needCell(cell);
        need(what >= 0 && what <= 5);
        int[] values = {height[cell], drain[cell] ? 1 : 0, basin[cell], lakes.indexOf(lakeOf(cell)),
            isWet(cell) ? 1 : 0, isInPit(cell) ? 1 : 0};
        return values[what];
    }

    int between(int a, int b, boolean threshold) {
        needNeighbors(a, b);
        return threshold ? threshold(a, b) : gate(a, b);
    }

    int count(int what) {
        need(what >= 0 && what <= 6);
        int sea = 0;
        for (int cell = 0; cell < cells(); cell++) {
            sea += pitOf(cell) == NONE ? 1 : 0;
        }
        int full = 0;
        for (Lake lake : lakes) {
            full += isFull(lake) ? 1 : 0;
        }
        return new int[] {w, h, basinCount, lakes.size(), wetCells(), sea, full}[what];
    }

    int pour(int cell, int amount) {
        needCell(cell);
        need(amount >= 0 && amount <= 100000);
        if (water() + amount > 1000000) {
            throw new IllegalStateException();
        }
        save();
        return pourAtCell(cell, amount);
    }

    private int rainOnAll(int amount) {
        int gone = 0;
        for (int cell = 0; cell < cells(); cell++) {
            gone += pourAtCell(cell, amount);
        }
        return gone;
    }

    int rain(int amount) {
        need(amount >= 0 && amount <= 1000);
        if (water() + (long) amount * cells() > 1000000) {
            throw new IllegalStateException();
        }
        save();
        return rainOnAll(amount);
    }

    int evaporate(int rounds) {
        need(rounds >= 0 && rounds <= 100);
        save();
        int gone = 0;
        for (int round = 0; round < rounds; round++) {
            List<Lake> beginning = new ArrayList<>(lakes);
            List<Integer> amounts = new ArrayList<>();
            for (Lake lake : beginning) {
                int wet = (int) lake.cells.stream().filter(this::isWet).count();
                amounts.add(Math.min(wet, lake.volume));
            }
            for (int i = 0; i < beginning.size(); i++) {
                takeFrom(beginning.get(i), amounts.get(i));
                gone += amounts.get(i);
            }
        }
        evaporated += gone;
        return gone;
    }

    int take(int number, int amount) {
        Lake lake = needLake(number);
        need(amount >= 0 && amount <= lake.volume);
        save();
        takeFrom(lake, amount);
        evaporated += amount;
        return lakes.size();
    }

    long balance(int what) {
        need(what >= 0 && what <= 3);
        return new long[] {water() + lost + evaporated, water(), lost, evaporated}[what];
    }

    int lake(int number, int what) {
        Lake lake = needLake(number);
        need(what >= 0 && what <= 9);
        Pass pass = pass(lake);
        int wet = (int) lake.cells.stream().filter(this::isWet).count();
        int[] values = {lake.volume, capacity(lake), lake.cells.first(), lake.cells.size(), wet, lake.basins,
            pass == null ? NONE : pass.threshold, pass == null ? NONE : pass.a, pass == null ? NONE : pass.b,
            lake.lowestVolume};
        return values[what];
    }

    long lakeCells(int number) {
        return bits(needLake(number).cells);
    }

    int level(int number, int part) {
        Lake lake = needLake(number);
        need(part == 0 || part == 1);
        Fraction level = levelOf(lake);
        return (int) (part == 0 ? level.top : level.bottom);
    }

    double depth(int cell) {
        needCell(cell);
        Fraction depth = depthOf(cell);
        return (double) depth.top / (double) depth.bottom;
    }

    int deepest() {
        int best = NONE;
        for (int cell = 0; cell < cells(); cell++) {
            if (isWet(cell) && (best == NONE || depthOf(cell).isAbove(depthOf(best)))) {
                best = cell;
            }
        }
        return best;
    }

    long course(int cell) {
        needCell(cell);
        TreeSet<Integer> plain = plain(cell);
        int way = way(plain);
        return bits(plain) | (way == NONE ? 0L : course(way));
    }

    int amountFor(int at, int target) {
        needCell(at);
        needCell(target);
        if (isWet(target)) {
            return 0;
        }
        if (!wouldBeWet(at, 100000, target)) {
            return NONE;
        }
        int amount = 1;
        while (!wouldBeWet(at, amount, target)) {
            amount++;
        }
        return amount;
    }

    private boolean wouldBeWet(int at, int amount, int target) {
        PlainModel copy = copy();
        copy.pourAtCell(at, amount);
        return copy.isWet(target);
    }

    int rainToJoin() {
        for (int amount = 1; amount <= 40; amount++) {
            PlainModel copy = copy();
            copy.rainOnAll(amount);
            if (copy.lakes.size() < lakes.size()) {
                return amount;
            }
        }
        return NONE;
    }

    int withoutGate(int a, int b) {
        needNeighbors(a, b);
        PlainModel copy = copy();
        copy.setGate(a, b, NONE);
        return copy.wetCells() - wetCells();
    }

    int append(int value) {
        need(value >= 0 && value <= 127);
        if (text.length() == 150) {
            throw new IllegalStateException();
        }
        text.append((char) value);
        return text.length();
    }

    int clearText() {
        int before = text.length();
        text = new StringBuilder();
        return before;
    }

    int parse() {
        PlainModel read = new PlainModel();
        int fault = new PlainReader(text.toString()).read(read);
        if (fault != NONE) {
            return -10 - fault;
        }
        save();
        become(read);
        return basinCount;
    }

    /** What a text tells: the size, the heights, the drains and {a, b, height} of the gates. */
    void build(int columns, int rows, List<Integer> heights, List<Integer> drains, List<int[]> gatesToldOf) {
        lay(columns, rows);
        for (int cell = 0; cell < cells(); cell++) {
            height[cell] = heights.get(cell);
        }
        for (int cell : drains) {
            drain[cell] = true;
        }
        for (int[] told : gatesToldOf) {
            gates.put(gateKey(told[0], told[1]), told[2]);
        }
        findBasins();
    }

    int undo() {
        if (saved.isEmpty()) {
            throw new IllegalStateException();
        }
        become(saved.removeLast());
        return saved.size();
    }

    long digest() {
        List<Long> values = new ArrayList<>();
        values.add((long) text.length());
        for (int what = 0; what <= 6; what++) {
            values.add((long) count(what));
        }
        for (int cell = 0; cell < cells(); cell++) {
            for (int what = 0; what <= 5; what++) {
                values.add((long) cell(cell, what));
            }
        }
        for (int lake = 0; lake < lakes.size(); lake++) {
            for (int what = 0; what <= 9; what++) {
                values.add((long) lake(lake, what));
            }
            values.add(lakeCells(lake));
            values.add((long) level(lake, 0));
            values.add((long) level(lake, 1));
        }
        for (int what = 0; what <= 3; what++) {
            values.add(balance(what));
        }
        values.add((long) saved.size());
        long hash = 3049;
        for (long value : values) {
            hash = 31 * hash + value;
        }
        return hash;
    }
}
