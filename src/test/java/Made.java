/** Objects for the tests to begin with. */
final class Made {
    /** Two basins, {0, 1} and {2}, that a ridge of height 5 parts; nothing leaves. */
    static final String RIDGE = "31:0,5,0";
    /** Three basins, {0, 1}, {2, 3} and {4}, between ridges of height 5. */
    static final String TWO_RIDGES = "51:0,5,0,5,0";
    /** Two even cells that a gate of height 4 parts. */
    static final String GATED = "21:0,0;g0,1,4";
    /** A basin {0, 1} with room for 3, which flows over into the drain at cell 2. */
    static final String BOWL = "31:0,3,0;d2";
    /** Two basins that can join, {0, 1, 6, 7, 8, 9} and {2, 3}, one more at {10}, and the sea. */
    static final String COAST = "62:0,5,0,5,9,0,9,9,9,9,1,9;d5;g4,10,9;g1,2,3";

    private Made() {
    }

    static LakeLevels of(String text) {
        LakeLevels x = new LakeLevels();
        write(x, text);
        x.parse();
        return x;
    }

    static void write(LakeLevels x, String text) {
        x.clearText();
        for (int i = 0; i < text.length(); i++) {
            x.append(text.charAt(i));
        }
    }

    /** A joined lake and another one, water that is lost and that has evaporated, a text, and 4 saved states. */
    static LakeLevels coast() {
        LakeLevels x = of(COAST);
        x.pour(0, 10);
        x.pour(2, 10);
        x.pour(10, 4);
        x.pour(5, 7);
        x.evaporate(1);
        return x;
    }

    /** One cell with this much water. */
    static LakeLevels tank(int water) {
        LakeLevels x = new LakeLevels();
        for (int left = water; left > 0; left -= Math.min(left, 100000)) {
            x.pour(0, Math.min(left, 100000));
        }
        return x;
    }

    static LakeLevels land(int columns, int rows) {
        LakeLevels x = new LakeLevels();
        x.begin(columns, rows);
        return x;
    }
}
