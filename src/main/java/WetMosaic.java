/** A mosaic of pieces with two faces. */
public final class WetMosaic {
    private static final int WIDE = 10;
    private static final int HIGH = 8;
    private static final int CELLS = 80;
    private static final int TABLE = 8;
    private static final int MOST_SUN = 4;
    private static final int FIRST_SUN = 1;
    private static final int FRESH = 12;
    private static final int MOST_PIECES = 100;
    private static final int LONGEST = 3;
    private static final int LAST_COLOUR = 6;
    private static final int LAST_KIND = 3;
    private static final int MOST_HOURS = 100;
    private static final int FORESEEN = 200;
    private static final int CELL_FACTS = 3;
    private static final int PIECE_FACTS = 8;
    private static final int COUNTS = 8;
    private static final int NONE = -1;

    /** By 10 * y + x: how wet the mortar is, 0 where it is dry, NONE where there is none. */
    private final int[] wet = new int[CELLS];
    /** By 10 * y + x: the number of the piece there, or NONE. */
    private final int[] cover = new int[CELLS];
    private final int[] sun = new int[TABLE];
    private final Piece[] pieces = new Piece[MOST_PIECES];
    private int pressed;
    private int hour;

    // Rows that calls use for a while; they are made once, so that no call makes its own.
    private final int[] foreseen = new int[CELLS];
    private final int[] marks = new int[CELLS];
    private final int[] found = new int[CELLS];

    /** Creates a bare wall, at the hour 0. */
    public WetMosaic() {
        for (int c = 0; c < CELLS; c++) {
            wet[c] = NONE;
            cover[c] = NONE;
        }
        for (int h = 0; h < TABLE; h++) {
            sun[h] = FIRST_SUN;
        }
    }

    /** A piece, also after it has been taken out. */
    private static final class Piece {
        final int x;
        final int y;
        final int length;
        final int front;
        final int back;
        boolean across;
        boolean showsBack;
        boolean out;

        Piece(int x, int y, int length, boolean across, int front, int back) {
            this.x = x;
            this.y = y;
            this.length = length;
            this.across = across;
            this.front = front;
            this.back = back;
        }

        int shownColour() {
            return showsBack ? back : front;
        }

        int otherColour() {
            return showsBack ? front : back;
        }

        int cellAt(int step) {
            return cellOf(across ? x + step : x, across ? y : y + step);
        }
    }

    // ---- mortar and sun

    /** Spreads fresh mortar in the uncovered cells of a part of the wall; tells how many these are. */
    public int spread(int x, int y, int wide, int high) throws IndexOutOfBoundsException, IllegalArgumentException {
        refuseOutside(x, y);
        if (!within(wide, 1, WIDE - x) || !within(high, 1, HIGH - y)) {
            throw new IllegalArgumentException("the part reaches beyond the wall");
        }
        int cells = 0;
        for (int down = 0; down < high; down++) {
            for (int right = 0; right < wide; right++) {
                int c = cellOf(x + right, y + down);
                if (at(cover, c) == NONE) {
                    put(wet, c, FRESH);
                    cells++;
                }
            }
        }
        return cells;
    }

    /** Sets the sun of an hour of the table; tells the sun before. */
    public int setSun(int hour, int sun) throws IndexOutOfBoundsException, IllegalArgumentException {
        if (!within(hour, 0, TABLE - 1)) {
            throw new IndexOutOfBoundsException("no such hour in the table");
        }
        if (!within(sun, 0, MOST_SUN)) {
            throw new IllegalArgumentException("no such sun");
        }
        int before = at(this.sun, hour);
        put(this.sun, hour, sun);
        return before;
    }

    // ---- pieces

    /** Presses a piece into wet mortar; tells its number. */
    public int press(int x, int y, int length, boolean across, int front, int back)
            throws IndexOutOfBoundsException, IllegalArgumentException, IllegalStateException {
        refuseOutside(x, y);
        if (!within(length, 1, LONGEST) || !isColour(front) || !isColour(back)) {
            throw new IllegalArgumentException("no such length or colour");
        }
        int number = pressed;
        if (!within(number, 0, pieces.length - 1) || !hasRoom(x, y, length, across, NONE)) {
            throw new IllegalStateException("no piece can be pressed there");
        }
        Piece made = new Piece(x, y, length, across, front, back);
        pieces[number] = made;
        pressed = number + 1;
        setCover(made, number);
        return number;
    }

    /** Flips a loose piece; tells the colour that it shows then. */
    public int flip(int piece) throws IndexOutOfBoundsException, IllegalStateException {
        Piece one = find(piece);
        if (one == null) {
            throw new IndexOutOfBoundsException("no such piece");
        }
        if (!isLoose(one, wet)) {
            throw new IllegalStateException("the piece is not loose");
        }
        one.showsBack = !one.showsBack;
        for (int step = 0; step < one.length; step++) {
            int c = one.cellAt(step);
            put(wet, c, at(wet, c) - 1);
        }
        return one.shownColour();
    }

    /** Turns a loose piece about its first cell; tells how many cells it covers. */
    public int turn(int piece) throws IndexOutOfBoundsException, IllegalStateException {
        Piece one = find(piece);
        if (one == null) {
            throw new IndexOutOfBoundsException("no such piece");
        }
        if (!isLoose(one, wet) || !hasRoom(one.x, one.y, one.length, !one.across, piece)) {
            throw new IllegalStateException("the piece cannot be turned");
        }
        setCover(one, NONE);
        one.across = !one.across;
        setCover(one, piece);
        return one.length;
    }

    /** Takes a piece out; tells whether it was loose. One that was not takes its mortar with it. */
    public boolean take(int piece) throws IndexOutOfBoundsException, IllegalStateException {
        Piece one = find(piece);
        if (one == null) {
            throw new IndexOutOfBoundsException("no such piece");
        }
        if (one.out) {
            throw new IllegalStateException("the piece is out");
        }
        boolean lifted = isLoose(one, wet);
        setCover(one, NONE);
        one.out = true;
        if (!lifted) {
            removeMortar(one);
        }
        return lifted;
    }

    // ---- what is there

    /** Tells of a cell: 0 how wet it is, 1 the piece there, 2 the colour that it shows. */
    public int cell(int x, int y, int what) throws IndexOutOfBoundsException {
        refuseOutside(x, y);
        if (!within(what, 0, CELL_FACTS - 1)) {
            throw new IndexOutOfBoundsException("a cell has no such fact");
        }
        return cellFact(cellOf(x, y), what);
    }

    /** Tells of a piece: its first cell, length, direction, two colours, whether loose, whether out. */
    public int piece(int piece, int what) throws IndexOutOfBoundsException {
        Piece one = find(piece);
        if (one == null) {
            throw new IndexOutOfBoundsException("no such piece");
        }
        if (!within(what, 0, PIECE_FACTS - 1)) {
            throw new IndexOutOfBoundsException("a piece has no such fact");
        }
        return pieceFact(one, what);
    }

    /** Tells the hour and how many pieces, cells and gaps of several sorts there are. */
    public int count(int what) throws IndexOutOfBoundsException {
        if (!within(what, 0, COUNTS - 1)) {
            throw new IndexOutOfBoundsException("no such count");
        }
        return countFact(what);
    }

    // ---- patterns and mending

    /** Tells how many cells do not fit a pattern. */
    public int off(int kind, int a, int b) throws IllegalArgumentException {
        refuseNoPattern(kind, a, b);
        return cellsOff(kind, a, b);
    }

    /** Tells the loose piece that had best be flipped for a pattern, or -1 if none helps. */
    public int advise(int kind, int a, int b) throws IllegalArgumentException {
        refuseNoPattern(kind, a, b);
        int best = NONE;
        int fewest = cellsOff(kind, a, b);
        for (int number = 0; number < pressed; number++) {
            Piece one = find(number);
            if (one != null && isLoose(one, wet)) {
                int then = cellsOffFlipped(one, kind, a, b);
                if (then < fewest) {
                    fewest = then;
                    best = number;
                }
            }
        }
        return best;
    }

    /** Tells how few pieces, all across or all downwards, fill the gap of a cell. */
    public int mends(int x, int y, boolean across) throws IndexOutOfBoundsException {
        refuseOutside(x, y);
        clearMarks();
        markGap(x, y);
        return piecesForMarks(across);
    }

    /** Tells how many cells the gap of a cell has. */
    public int gap(int x, int y) throws IndexOutOfBoundsException {
        refuseOutside(x, y);
        clearMarks();
        return markGap(x, y);
    }

    // ---- hours

    /** Lets hours go by; tells how many pieces are loose then. */
    public int pass(int hours) throws IllegalArgumentException {
        if (!within(hours, 1, MOST_HOURS)) {
            throw new IllegalArgumentException("so many hours cannot pass");
        }
        for (int gone = 0; gone < hours; gone++) {
            dryOneHour(wet, hour);
            hour++;
        }
        return loosePieces();
    }

    /** Tells behind how many hours a piece is not loose any more, or -1. */
    public int loose(int piece) throws IndexOutOfBoundsException {
        Piece one = find(piece);
        if (one == null) {
            throw new IndexOutOfBoundsException("no such piece");
        }
        System.arraycopy(wet, 0, foreseen, 0, CELLS);
        for (int ahead = 0; ahead <= FORESEEN; ahead++) {
            if (!isLoose(one, foreseen)) {
                return ahead;
            }
            dryOneHour(foreseen, hour + ahead);
        }
        return NONE;
    }

    /** Tells behind how many hours no cell is wet, or -1. */
    public int dry() {
        System.arraycopy(wet, 0, foreseen, 0, CELLS);
        for (int ahead = 0; ahead <= FORESEEN; ahead++) {
            if (cellsFrom(foreseen, 1) == 0) {
                return ahead;
            }
            dryOneHour(foreseen, hour + ahead);
        }
        return NONE;
    }

    /** Tells the covered cells, divided by all cells. */
    public double share() {
        return (double) cellsFrom(cover, 0) / CELLS;
    }

    /** Tells a checksum of all that can be seen. */
    public long digest() {
        long d = 967;
        for (int what = 0; what < COUNTS; what++) {
            d = d * 31 + countFact(what);
        }
        for (int c = 0; c < CELLS; c++) {
            for (int what = 0; what < CELL_FACTS; what++) {
                d = d * 31 + cellFact(c, what);
            }
        }
        for (int number = 0; number < pressed; number++) {
            Piece one = find(number);
            for (int what = 0; one != null && what < PIECE_FACTS; what++) {
                d = d * 31 + pieceFact(one, what);
            }
        }
        for (int h = 0; h < TABLE; h++) {
            d = d * 31 + sun[h];
        }
        return d;
    }

    // Private: tests of arguments.

    private static boolean within(int value, int low, int high) {
        return value >= low && value <= high;
    }

    private static boolean isOnWall(int x, int y) {
        return within(x, 0, WIDE - 1) && within(y, 0, HIGH - 1);
    }

    private static boolean isColour(int value) {
        return within(value, 0, LAST_COLOUR);
    }

    private static void refuseOutside(int x, int y) {
        if (!isOnWall(x, y)) {
            throw new IndexOutOfBoundsException("no such cell");
        }
    }

    private static void refuseNoPattern(int kind, int a, int b) {
        if (!within(kind, 0, LAST_KIND) || !isColour(a) || !isColour(b)) {
            throw new IllegalArgumentException("no such pattern");
        }
    }

    // Private: rows. What lies beyond a row counts as nothing, so that no index can ever fail.

    private static int cellOf(int x, int y) {
        return WIDE * y + x;
    }

    private static int at(int[] row, int index) {
        return within(index, 0, row.length - 1) ? row[index] : NONE;
    }

    private static void put(int[] row, int index, int value) {
        if (within(index, 0, row.length - 1)) {
            row[index] = value;
        }
    }

    private static int cellsFrom(int[] row, int least) {
        int cells = 0;
        for (int c = 0; c < row.length; c++) {
            if (row[c] >= least) {
                cells++;
            }
        }
        return cells;
    }

    // Private: pieces.

    private Piece find(int piece) {
        return within(piece, 0, pressed - 1) && piece < pieces.length ? pieces[piece] : null;
    }

    private static boolean isLoose(Piece one, int[] mortar) {
        if (one.out) {
            return false;
        }
        for (int step = 0; step < one.length; step++) {
            if (at(mortar, one.cellAt(step)) < 1) {
                return false;
            }
        }
        return true;
    }

    private boolean hasRoom(int x, int y, int length, boolean across, int own) {
        for (int step = 0; step < length; step++) {
            int stepX = across ? x + step : x;
            int stepY = across ? y : y + step;
            if (!isOnWall(stepX, stepY) || !isFree(cellOf(stepX, stepY), own)) {
                return false;
            }
        }
        return true;
    }

    private boolean isFree(int c, int own) {
        int by = at(cover, c);
        return at(wet, c) >= 1 && (by == NONE || by == own);
    }

    private void setCover(Piece one, int by) {
        for (int step = 0; step < one.length; step++) {
            put(cover, one.cellAt(step), by);
        }
    }

    private void removeMortar(Piece one) {
        for (int step = 0; step < one.length; step++) {
            put(wet, one.cellAt(step), NONE);
        }
    }

    private int piecesIn() {
        int in = 0;
        for (int number = 0; number < pressed; number++) {
            Piece one = find(number);
            if (one != null && !one.out) {
                in++;
            }
        }
        return in;
    }

    private int loosePieces() {
        int loose = 0;
        for (int number = 0; number < pressed; number++) {
            Piece one = find(number);
            if (one != null && isLoose(one, wet)) {
                loose++;
            }
        }
        return loose;
    }

    // Private: facts, each by a number that has been looked at.

    private int colourAt(int c) {
        Piece one = find(at(cover, c));
        return one == null ? NONE : one.shownColour();
    }

    private int cellFact(int c, int what) {
        switch (what) {
            case 0:
                return at(wet, c);
            case 1:
                return at(cover, c);
            default:
                return colourAt(c);
        }
    }

    private int pieceFact(Piece one, int what) {
        switch (what) {
            case 0:
                return one.x;
            case 1:
                return one.y;
            case 2:
                return one.length;
            case 3:
                return one.across ? 1 : 0;
            case 4:
                return one.shownColour();
            case 5:
                return one.otherColour();
            case 6:
                return isLoose(one, wet) ? 1 : 0;
            default:
                return one.out ? 1 : 0;
        }
    }

    private int countFact(int what) {
        switch (what) {
            case 0:
                return hour;
            case 1:
                return pressed;
            case 2:
                return piecesIn();
            case 3:
                return loosePieces();
            case 4:
                return cellsFrom(wet, 0);
            case 5:
                return cellsFrom(wet, 1);
            case 6:
                return cellsFrom(cover, 0);
            default:
                return gaps();
        }
    }

    // Private: patterns.

    private boolean fits(int x, int y, int kind, int a, int b) {
        int shown = colourAt(cellOf(x, y));
        switch (kind) {
            case 0:
                return shown == a;
            case 1:
                return shown == (y % 2 == 0 ? a : b);
            case 2:
                return shown == ((x + y) % 2 == 0 ? a : b);
            default:
                return shown == colourAt(cellOf(WIDE - 1 - x, y));
        }
    }

    private int cellsOff(int kind, int a, int b) {
        int cells = 0;
        for (int y = 0; y < HIGH; y++) {
            for (int x = 0; x < WIDE; x++) {
                if (!fits(x, y, kind, a, b)) {
                    cells++;
                }
            }
        }
        return cells;
    }

    /** A trial: the face is changed for the counting alone, the mortar not at all. */
    private int cellsOffFlipped(Piece one, int kind, int a, int b) {
        one.showsBack = !one.showsBack;
        int cells = cellsOff(kind, a, b);
        one.showsBack = !one.showsBack;
        return cells;
    }

    // Private: gaps.

    private void clearMarks() {
        for (int c = 0; c < CELLS; c++) {
            marks[c] = 0;
        }
    }

    private int gaps() {
        clearMarks();
        int gaps = 0;
        for (int y = 0; y < HIGH; y++) {
            for (int x = 0; x < WIDE; x++) {
                if (markGap(x, y) > 0) {
                    gaps++;
                }
            }
        }
        return gaps;
    }

    /** Marks the gap of a cell; tells how many cells it has, 0 if it is covered or was marked before. */
    private int markGap(int x, int y) {
        int cells = reach(x, y, 0);
        for (int next = 0; next < cells && next < CELLS; next++) {
            int c = found[next];
            cells = reach(c % WIDE - 1, c / WIDE, cells);
            cells = reach(c % WIDE + 1, c / WIDE, cells);
            cells = reach(c % WIDE, c / WIDE - 1, cells);
            cells = reach(c % WIDE, c / WIDE + 1, cells);
        }
        return cells;
    }

    /** Adds a cell to those found, if it is a new one of the gap; tells how many were found then. */
    private int reach(int x, int y, int cells) {
        int c = cellOf(x, y);
        if (!isOnWall(x, y) || at(cover, c) != NONE || at(marks, c) != 0) {
            return cells;
        }
        put(marks, c, 1);
        put(found, cells, c);
        return cells + 1;
    }

    /** A line of marked cells needs a new piece at each third cell, so no line needs a search. */
    private int piecesForMarks(boolean across) {
        int lines = across ? HIGH : WIDE;
        int steps = across ? WIDE : HIGH;
        int needed = 0;
        for (int line = 0; line < lines; line++) {
            int run = 0;
            for (int step = 0; step < steps; step++) {
                if (at(marks, across ? cellOf(step, line) : cellOf(line, step)) == 0) {
                    run = 0;
                } else {
                    needed += run % LONGEST == 0 ? 1 : 0;
                    run++;
                }
            }
        }
        return needed;
    }

    // Private: drying.

    private void dryOneHour(int[] mortar, int number) {
        int less = at(sun, Math.floorMod(number, TABLE));
        boolean reachesBeneath = number % 2 == 0;
        for (int c = 0; c < CELLS; c++) {
            boolean open = at(cover, c) == NONE;
            if (at(mortar, c) >= 1 && (open || reachesBeneath)) {
                put(mortar, c, Math.max(0, at(mortar, c) - less));
            }
        }
    }
}
