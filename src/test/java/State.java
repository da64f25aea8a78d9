/** What can be asked of an object, as a text, so that two states can be compared. */
final class State {
    private State() {
    }

    /** Asks alone. The digest has no gates, ways and depths, so these are asked for too. */
    static String of(LakeLevels x) {
        StringBuilder told = new StringBuilder("digest " + x.digest());
        int columns = x.count(0);
        int cells = columns * x.count(1);
        for (int cell = 0; cell < cells; cell++) {
            told.append("; cell ").append(cell).append(": ").append(x.course(cell));
            told.append(' ').append(x.depth(cell));
            if (cell % columns < columns - 1) {
                told.append(" right ").append(x.between(cell, cell + 1, false));
            }
            if (cell + columns < cells) {
                told.append(" below ").append(x.between(cell, cell + columns, false));
            }
        }
        return told.toString();
    }

    /**
     * Asks for all there is but the saved states and the text; two readings of
     * a dozen cells are within the 512 calls that an object is made for.
     */
    static String inFull(LakeLevels x) {
        StringBuilder told = new StringBuilder();
        for (int what = 0; what <= 6; what++) {
            told.append(" count ").append(x.count(what));
        }
        for (int what = 0; what <= 3; what++) {
            told.append(" balance ").append(x.balance(what));
        }
        int cells = x.count(0) * x.count(1);
        for (int cell = 0; cell < cells; cell++) {
            for (int what = 0; what <= 5; what++) {
                told.append(" cell ").append(x.cell(cell, what));
            }
        }
        int lakes = x.count(3);
        for (int lake = 0; lake < lakes; lake++) {
            for (int what = 0; what <= 9; what++) {
                told.append(" lake ").append(x.lake(lake, what));
            }
            told.append(" cells ").append(x.lakeCells(lake));
            told.append(" level ").append(x.level(lake, 0)).append('/').append(x.level(lake, 1));
        }
        String ofCells = of(x);
        return told.append(ofCells.substring(ofCells.indexOf(';'))).toString();
    }

    /** Uses the object up: its state, all saved states, then what its text describes, and the text's length. */
    static String toTheEnd(LakeLevels x) {
        StringBuilder told = new StringBuilder(of(x));
        for (boolean more = undone(x); more; more = undone(x)) {
            told.append("\nundone: ").append(of(x));
        }
        told.append("\nparsed ").append(x.parse()).append(": ").append(of(x));
        return told.append("\ntext ").append(x.clearText()).toString();
    }

    private static boolean undone(LakeLevels x) {
        try {
            x.undo();
            return true;
        } catch (IllegalStateException e) {
            return false;
        }
    }
}
