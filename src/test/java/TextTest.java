/** The landscape text: its length, its numbers, and the position of the first byte that cannot stand. */
public final class TextTest {
    /** 110 bytes: the largest landscape, with two digits for each height. */
    private static final String LONG_HEIGHTS = "66:" + "10,".repeat(35) + "10";
    private static final String LONG_GATES = ";g34,35,99".repeat(4);

    private TextTest() {
    }

    public static void main(String[] args) {
        lengths();
        bytes();
        longestText();
        sizes();
        numbers();
        cellsThatDoNotExist();
        cellsThatAreNoNeighbors();
        everyPrefixAndEveryByte();
        Check.end();
    }

    private static int parsed(String text) {
        LakeLevels x = new LakeLevels();
        Made.write(x, text);
        return x.parse();
    }

    private static void dueFault(String text, int position) {
        Check.due("parse() of '" + text + "'", parsed(text), -10 - position);
    }

    private static void dueBasins(String text, int basins) {
        Check.due("parse() of '" + text + "'", parsed(text), basins);
    }

    private static void lengths() {
        LakeLevels x = new LakeLevels();
        Check.due("no text", x.clearText(), 0);
        for (int length = 1; length <= 150; length++) {
            Check.due("append", x.append(length % 128), length);
        }
        Check.dueThrow("append to 150 bytes", IllegalStateException.class, () -> x.append(1));
        Check.due("150 bytes", x.clearText(), 150);
        Check.due("then none", x.clearText(), 0);
        Check.due("then one", x.append(127), 1);
        Check.due("one byte", x.clearText(), 1);
    }

    /** Bytes beside the digits and signs, that differ from them by little. */
    private static void bytes() {
        for (int sign : new int[] {0, '/', ':', '0' - 16, 127}) {
            dueFault((char) sign + "1:0", 0);
            dueFault("1" + (char) sign + ":0", 1);
            dueFault("11:" + (char) sign, 3);
            dueFault("11:0;d" + (char) sign, 6);
        }
        for (int sign : new int[] {'9', ';', '0'}) {
            dueFault("11" + (char) sign + "0", 2);
        }
        for (int sign : new int[] {'+', '-', '.', ':'}) {
            dueFault("21:0" + (char) sign + "0", 4);
            dueFault("11:0" + (char) sign + "d0", 4);
        }
        for (int sign : new int[] {'c', 'e', 'f', 'h', 'D', 'G', '0', ';'}) {
            dueFault("11:0;" + (char) sign + "0", 5);
        }
    }

    /** "The text has at most 150 bytes", "the length of the text if the text ends too early" */
    private static void longestText() {
        String full = LONG_HEIGHTS + LONG_GATES;
        Check.due("150 bytes", full.length(), 150);
        dueBasins(full, 1);
        LakeLevels x = Made.of(full);
        Check.due("the last gate", x.between(35, 34, false), 99);
        Check.due("the last height", x.cell(35, 0), 10);
        Check.due("the text stays as it is", x.clearText(), 150);
        dueFault(full.substring(0, 149) + ";", 150);
        dueFault(full.substring(0, 149) + "x", 149);
        dueBasins(full.substring(0, 149), 1);
        dueFault(full.substring(0, 148), 148);
        dueFault(full.substring(0, 140) + ";d01;d01;d", 150);
        dueFault(full.substring(0, 140) + ";d1;d1;d36", 148);
        dueFault(LONG_HEIGHTS.substring(0, 109) + "0".repeat(41), 110);
    }

    /** "w and h as two digits 1 to 6, a colon" */
    private static void sizes() {
        for (int size = 0; size <= 9; size++) {
            if (size >= 1 && size <= 6) {
                dueBasins(size + "1:" + "0,".repeat(size - 1) + "0", 1);
                dueBasins("1" + size + ":" + "0,".repeat(size - 1) + "0", 1);
            } else {
                dueFault(size + "1:0", 0);
                dueFault("1" + size + ":0", 1);
            }
        }
        dueFault("", 0);
        dueFault("6", 1);
        dueFault("66", 2);
        dueFault("66:", 3);
        dueFault("66:" + "0,".repeat(35), 73);
        dueFault("66:" + "0,".repeat(36), 74);
        dueFault("11:0,", 4);
        dueFault("11:0,0", 4);
        dueFault("21:0;", 4);
        dueFault("21:0", 4);
        dueFault("21:0,", 5);
    }

    /** "Numbers have one or two digits.", "a third digit, too" */
    private static void numbers() {
        dueBasins("11:0", 1);
        dueBasins("11:00", 1);
        dueBasins("11:99", 1);
        dueFault("11:000", 5);
        dueFault("11:100", 5);
        dueFault("21:1,100", 7);
        dueBasins("21:0,0;d01", 0);
        dueFault("21:0,0;d001", 10);
        dueFault("21:0,0;d999", 10);
        dueFault("21:0,0;g001", 10);
        dueFault("21:0,0;g0,001", 12);
        dueFault("21:0,0;g0,1,000", 14);
        dueBasins("21:0,0;g00,01,00", 1);
        dueBasins("21:0,0;g00,01,01", 2);
        LakeLevels x = Made.of("22:00,09,90,99;g01,00,99;g2,3,00");
        int[] heights = {0, 9, 90, 99};
        for (int cell = 0; cell < 4; cell++) {
            Check.due("height " + cell, x.cell(cell, 0), heights[cell]);
        }
        Check.due("gate of 99", x.between(0, 1, false), 99);
        Check.due("gate of 0", x.between(3, 2, false), 0);
        Check.due("no gate", x.between(0, 2, false), LakeLevels.NONE);
    }

    /** "the index of its first digit, found when a byte that is no digit, or the end of the text, follows it" */
    private static void cellsThatDoNotExist() {
        dueBasins("21:0,0;d1", 0);
        dueFault("21:0,0;d2", 8);
        dueFault("21:0,0;d02", 8);
        dueFault("21:0,0;d2;", 8);
        dueFault("21:0,0;d2,", 8);
        dueFault("21:0,0;d10", 8);
        dueFault("21:0,0;d100", 10);
        dueBasins("66:" + "0,".repeat(35) + "0;d35", 0);
        dueFault("66:" + "0,".repeat(35) + "0;d36", 76);
        dueFault("66:" + "0,".repeat(35) + "0;d99", 76);
        dueBasins("21:0,0;g1,0,9", 2);
        dueFault("21:0,0;g2,1,9", 8);
        dueFault("21:0,0;g2", 8);
        dueFault("21:0,0;g2;", 8);
        dueFault("21:0,0;g99,", 8);
        dueFault("21:0,0;g200", 10);
        dueFault("21:0,0;g1", 9);
        dueFault("21:0,0;g1;", 9);
        dueFault("21:0,0;g1,2,9", 10);
        dueFault("21:0,0;g1,2", 10);
        dueFault("21:0,0;d0;d1;d2", 14);
    }

    /** "a second cell of a gate that is no neighbor of the first one" */
    private static void cellsThatAreNoNeighbors() {
        String land = "32:0,0,0,0,0,0";
        int[][] wrong = {{0, 0}, {0, 2}, {2, 3}, {3, 2}, {0, 4}, {4, 0}, {5, 0}, {1, 3}, {5, 5}, {0, 6}};
        for (int[] pair : wrong) {
            String start = land + ";g" + pair[0] + ",";
            for (String end : new String[] {"", ",", ",5", ";", "x"}) {
                dueFault(start + pair[1] + end, start.length());
                dueFault(start + "0" + pair[1] + end, start.length());
            }
            dueFault(start + "0" + pair[1] + "0", start.length() + 2);
        }
        int[][] right = {{0, 1}, {1, 0}, {0, 3}, {3, 0}, {1, 4}, {2, 5}, {4, 5}};
        for (int[] pair : right) {
            String start = land + ";g" + pair[0] + "," + pair[1];
            dueBasins(start + ",0", 1);
            dueFault(start, start.length());
            dueFault(start + ",", start.length() + 1);
            dueFault(start + ",;", start.length() + 1);
            dueFault(start + ",0,", start.length() + 2);
        }
    }

    /** Each text is read by PlainReader, too, which takes it byte by byte. */
    private static void everyPrefixAndEveryByte() {
        for (String text : new String[] {"11:7", "21:10,9;d1;g0,01,33;d0", "23:1,22,3,44,5,66;g4,5,6;d2"}) {
            for (int at = 0; at <= text.length(); at++) {
                duePlain(text.substring(0, at));
                for (char sign = 0; sign < 128; sign++) {
                    String end = at < text.length() ? text.substring(at + 1) : "";
                    duePlain(text.substring(0, at) + sign + end);
                }
            }
        }
    }

    private static void duePlain(String text) {
        int fault = new PlainReader(text).read(new PlainModel());
        int answer = parsed(text);
        Check.due("the position in '" + text + "'", answer <= -10 ? -10 - answer : LakeLevels.NONE, fault);
    }
}
