import java.util.ArrayList;
import java.util.List;

/**
 * Reads a landscape text as an automaton, byte by byte, for comparison with LakeLevels: each byte is
 * either taken or it is the first that cannot stand where it stands.
 */
final class PlainReader {
    private static final int NONE = -1;

    /** What a number that is being read is meant for. */
    private enum Meaning { HEIGHT, DRAIN, GATE_A, GATE_B, GATE_HEIGHT }

    private final String text;
    private int columns;
    private int rows;
    private final List<Integer> heights = new ArrayList<>();
    private final List<Integer> drains = new ArrayList<>();
    private final List<int[]> gates = new ArrayList<>();
    private int gateA;
    private int gateB;
    private Meaning meaning = Meaning.HEIGHT;
    private String digits = "";
    private boolean itemLetterIsDue;
    private int fault = NONE;

    PlainReader(String text) {
        this.text = text;
    }

    /** Returns the syntax error position, or NONE; then the model has the landscape. */
    int read(PlainModel model) {
        for (int at = 0; at < text.length() && fault == NONE; at++) {
            take(at, text.charAt(at));
        }
        if (fault == NONE) {
            finish();
        }
        if (fault == NONE) {
            model.build(columns, rows, heights, drains, gates);
        }
        return fault;
    }

    private void take(int at, char sign) {
        if (at <= 1) {
            takeSize(at, sign);
        } else if (at == 2) {
            fault = sign == ':' ? NONE : at;
        } else if (itemLetterIsDue) {
            takeLetter(at, sign);
        } else if (sign >= '0' && sign <= '9') {
            digits += sign;
            fault = digits.length() > 2 ? at : NONE;
        } else if (digits.isEmpty()) {
            fault = at;
        } else {
            takeSeparator(at, sign);
        }
    }

    private void takeSize(int at, char sign) {
        if (sign < '1' || sign > '6') {
            fault = at;
        } else if (at == 0) {
            columns = sign - '0';
        } else {
            rows = sign - '0';
        }
    }

    private void takeLetter(int at, char sign) {
        itemLetterIsDue = false;
        if (sign == 'd') {
            meaning = Meaning.DRAIN;
        } else if (sign == 'g') {
            meaning = Meaning.GATE_A;
        } else {
            fault = at;
        }
    }

    private void takeSeparator(int at, char sign) {
        endNumber(at);
        if (fault != NONE) {
            return;
        }
        boolean moreHeights = meaning == Meaning.HEIGHT && heights.size() < columns * rows;
        boolean insideGate = meaning == Meaning.GATE_A || meaning == Meaning.GATE_B;
        char due = moreHeights || insideGate ? ',' : ';';
        if (sign != due) {
            fault = at;
        } else if (due == ';') {
            itemLetterIsDue = true;
        } else if (meaning == Meaning.GATE_A) {
            meaning = Meaning.GATE_B;
        } else if (meaning == Meaning.GATE_B) {
            meaning = Meaning.GATE_HEIGHT;
        }
    }

    private void endNumber(int end) {
        int value = Integer.parseInt(digits);
        int start = end - digits.length();
        digits = "";
        boolean exists = value < columns * rows;
        switch (meaning) {
            case HEIGHT -> heights.add(value);
            case DRAIN -> {
                fault = exists ? NONE : start;
                drains.add(value);
            }
            case GATE_A -> {
                fault = exists ? NONE : start;
                gateA = value;
            }
            case GATE_B -> {
                int steps = Math.abs(gateA / columns - value / columns) + Math.abs(gateA % columns - value % columns);
                fault = exists && steps == 1 ? NONE : start;
                gateB = value;
            }
            default -> gates.add(new int[] {gateA, gateB, value});
        }
    }

    private void finish() {
        if (text.length() < 3 || itemLetterIsDue || digits.isEmpty()) {
            fault = text.length();
            return;
        }
        endNumber(text.length());
        boolean moreHeights = meaning == Meaning.HEIGHT && heights.size() < columns * rows;
        boolean insideGate = meaning == Meaning.GATE_A || meaning == Meaning.GATE_B;
        if (fault == NONE && (moreHeights || insideGate)) {
            fault = text.length();
        }
    }
}
