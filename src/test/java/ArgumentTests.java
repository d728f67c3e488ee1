/**
 * Each sentence of the document that tells when a method throws: every argument at its bounds and beyond
 * them, every state that refuses a call, and calls to which several exceptions apply.
 */
public final class ArgumentTests extends MosaicTest {
    private static final int[][] NO_CELLS = {{-1, 0}, {10, 0}, {0, -1}, {0, 8}, {-1, -1}, {10, 8}};
    /** Lengths, fronts and backs, one of the three wrong in each. */
    private static final int[][] NO_PIECES = {{0, 0, 0}, {4, 0, 0}, {1, -1, 0}, {1, 7, 0}, {1, 0, -1}, {1, 0, 7}};

    private static void spreadBounds() {
        says("spread: IndexOutOfBoundsException if x is not 0 to 9, or y is not 0 to 7");
        bounds("x", WetMosaic::new, 0, 9, INDEX, (m, x) -> m.spread(x, 3, 1, 1));
        bounds("y", WetMosaic::new, 0, 7, INDEX, (m, y) -> m.spread(3, y, 1, 1));
        says("spread: IllegalArgumentException if wide is not 1 to 10 - x");
        for (int x = 0; x < 10; x++) {
            int from = x;
            bounds("from x " + x + " wide", WetMosaic::new, 1, 10 - x, ARGUMENT,
                (m, wide) -> m.spread(from, 0, wide, 1));
        }
        says("spread: IllegalArgumentException if high is not 1 to 8 - y");
        for (int y = 0; y < 8; y++) {
            int from = y;
            bounds("from y " + y + " high", WetMosaic::new, 1, 8 - y, ARGUMENT,
                (m, high) -> m.spread(0, from, 1, high));
        }
    }

    private static void spreadSeveral() {
        says("spread: the exception that is named first, of IndexOutOfBounds and IllegalArgument");
        WetMosaic m = freshWall();
        for (int[] cell : NO_CELLS) {
            int x = cell[0];
            int y = cell[1];
            String at = "spread(" + x + ", " + y;
            refused(m, at + ", 0, 1)", INDEX, () -> m.spread(x, y, 0, 1));
            refused(m, at + ", 11, 1)", INDEX, () -> m.spread(x, y, 11, 1));
            refused(m, at + ", 1, 0)", INDEX, () -> m.spread(x, y, 1, 0));
            refused(m, at + ", 1, 9)", INDEX, () -> m.spread(x, y, 1, 9));
        }
        refused(m, "spread(0, 0, 0, 9)", ARGUMENT, () -> m.spread(0, 0, 0, 9));
    }

    private static void setSunBounds() {
        says("setSun: IndexOutOfBoundsException if hour is not 0 to 7");
        bounds("hour", WetMosaic::new, 0, 7, INDEX, (m, hour) -> m.setSun(hour, 2));
        says("setSun: IllegalArgumentException if sun is not 0 to 4");
        for (int hour = 0; hour < 8; hour++) {
            int h = hour;
            bounds("hour " + h + " sun", WetMosaic::new, 0, 4, ARGUMENT, (m, sun) -> m.setSun(h, sun));
        }
        says("setSun: the exception that is named first, of IndexOutOfBounds and IllegalArgument");
        WetMosaic m = new WetMosaic();
        refused(m, "setSun(-1, -1)", INDEX, () -> m.setSun(-1, -1));
        refused(m, "setSun(-1, 5)", INDEX, () -> m.setSun(-1, 5));
        refused(m, "setSun(8, -1)", INDEX, () -> m.setSun(8, -1));
        refused(m, "setSun(8, 5)", INDEX, () -> m.setSun(8, 5));
    }

    private static void pressBounds() {
        for (boolean across : new boolean[] {true, false}) {
            String way = across ? "across" : "downwards";
            says("press " + way + ": IndexOutOfBoundsException if x is not 0 to 9, or y is not 0 to 7");
            bounds("x", MosaicTest::freshWall, 0, 9, INDEX, (m, x) -> m.press(x, 3, 1, across, 0, 6));
            bounds("y", MosaicTest::freshWall, 0, 7, INDEX, (m, y) -> m.press(3, y, 1, across, 0, 6));
            says("press " + way + ": IllegalArgumentException if length is not 1 to 3");
            bounds("length", MosaicTest::freshWall, 1, 3, ARGUMENT, (m, length) -> m.press(2, 2, length, across, 0, 6));
            says("press " + way + ": IllegalArgumentException if front or back is not 0 to 6");
            bounds("front", MosaicTest::freshWall, 0, 6, ARGUMENT, (m, front) -> m.press(2, 2, 1, across, front, 3));
            bounds("back", MosaicTest::freshWall, 0, 6, ARGUMENT, (m, back) -> m.press(2, 2, 1, across, 3, back));
        }
    }

    private static void pressBeyondTheWall() {
        says("press: IllegalStateException if it would reach beyond the wall");
        WetMosaic m = freshWall();
        for (int y = 0; y < 8; y += 7) {
            int row = y;
            refused(m, "two from x 9 in row " + y, STATE, () -> m.press(9, row, 2, true, 0, 0));
            refused(m, "three from x 9 in row " + y, STATE, () -> m.press(9, row, 3, true, 0, 0));
            refused(m, "three from x 8 in row " + y, STATE, () -> m.press(8, row, 3, true, 0, 0));
        }
        for (int x = 0; x < 10; x += 9) {
            int column = x;
            refused(m, "two from y 7 in column " + x, STATE, () -> m.press(column, 7, 2, false, 0, 0));
            refused(m, "three from y 7 in column " + x, STATE, () -> m.press(column, 7, 3, false, 0, 0));
            refused(m, "three from y 6 in column " + x, STATE, () -> m.press(column, 6, 3, false, 0, 0));
        }
    }

    private static void pressNotWet() {
        says("press: IllegalStateException if a cell of it is not wet");
        WetMosaic bare = new WetMosaic();
        refused(bare, "on a bare wall", STATE, () -> bare.press(5, 5, 1, true, 0, 0));
        WetMosaic dry = dryWall();
        refused(dry, "on a dry wall", STATE, () -> dry.press(5, 5, 1, true, 0, 0));
        for (int step = 0; step < 3; step++) {
            WetMosaic m = dryWall();
            for (int other = 0; other < 3; other++) {
                if (other != step) {
                    m.spread(4 + other, 0, 1, 1);
                    m.spread(0, 4 + other, 1, 1);
                }
            }
            refused(m, "across, its cell " + step + " dry", STATE, () -> m.press(4, 0, 3, true, 0, 0));
            refused(m, "downwards, its cell " + step + " dry", STATE, () -> m.press(0, 4, 3, false, 0, 0));
        }
        WetMosaic three = new WetMosaic();
        three.spread(0, 0, 3, 3);
        refused(three, "across, its last cell without mortar", STATE, () -> three.press(1, 2, 3, true, 0, 0));
        refused(three, "downwards, its last cell without mortar", STATE, () -> three.press(2, 1, 3, false, 0, 0));
    }

    private static void pressCovered() {
        says("press: IllegalStateException if a cell of it is covered");
        for (int step = 0; step < 3; step++) {
            WetMosaic m = freshWall();
            m.press(4 + step, 0, 1, true, 0, 0);
            m.press(0, 4 + step, 1, true, 0, 0);
            refused(m, "across, its cell " + step + " covered", STATE, () -> m.press(4, 0, 3, true, 0, 0));
            refused(m, "downwards, its cell " + step + " covered", STATE, () -> m.press(0, 4, 3, false, 0, 0));
        }
        WetMosaic full = coveredWall();
        refused(full, "on a wall that is covered whole", STATE, () -> full.press(9, 7, 1, true, 0, 0));
        WetMosaic m = freshWall();
        m.press(0, 0, 1, true, 0, 0);
        refused(m, "where the piece 0 is", STATE, () -> m.press(0, 0, 1, true, 0, 0));
    }

    private static void pressAHundred() {
        says("press: IllegalStateException if 100 were pressed");
        WetMosaic m = wallOfHundred();
        refused(m, "the 101st piece", STATE, () -> m.press(5, 5, 1, true, 0, 0));
        m.take(99);
        refused(m, "the 101st piece when all are out", STATE, () -> m.press(0, 0, 1, true, 0, 0));
    }

    private static void pressSeveral() {
        says("press: the exception that is named first, of IndexOutOfBounds and the others");
        WetMosaic bare = new WetMosaic();
        for (int[] cell : NO_CELLS) {
            int x = cell[0];
            int y = cell[1];
            refused(bare, "a piece at " + x + ", " + y, INDEX, () -> bare.press(x, y, 3, true, 0, 0));
            for (int[] no : NO_PIECES) {
                refused(bare, "a wrong piece at " + x + ", " + y, INDEX,
                    () -> bare.press(x, y, no[0], true, no[1], no[2]));
            }
        }
        WetMosaic hundred = wallOfHundred();
        refused(hundred, "the 101st piece at 10, 0", INDEX, () -> hundred.press(10, 0, 1, true, 0, 0));
        refused(hundred, "a wrong 101st piece at 10, 0", INDEX, () -> hundred.press(10, 0, 4, true, 7, 7));
        says("press: the exception that is named first, of IllegalArgument and IllegalState");
        WetMosaic full = coveredWall();
        for (int[] no : NO_PIECES) {
            refused(bare, "a wrong piece, no mortar", ARGUMENT, () -> bare.press(5, 5, no[0], true, no[1], no[2]));
            refused(full, "a wrong piece, covered", ARGUMENT, () -> full.press(5, 5, no[0], true, no[1], no[2]));
            refused(hundred, "a wrong 101st piece", ARGUMENT, () -> hundred.press(5, 5, no[0], true, no[1], no[2]));
        }
        WetMosaic m = freshWall();
        refused(m, "of length 4 beyond the wall", ARGUMENT, () -> m.press(9, 7, 4, true, 0, 0));
        refused(m, "of front 7 beyond the wall", ARGUMENT, () -> m.press(9, 7, 2, false, 7, 0));
        refused(m, "of back -1 beyond the wall", ARGUMENT, () -> m.press(9, 7, 2, true, 0, -1));
    }

    /** The numbers of pieces, when none, three and a hundred were pressed. */
    private static void pieceNumbers(String method, CallWith call) {
        says(method + ": IndexOutOfBoundsException if there is no such piece");
        bounds("of three, piece", MosaicTest::wallOfThree, 0, 2, INDEX, call);
        for (int value : new int[] {-1, 0, 1, Integer.MIN_VALUE, Integer.MAX_VALUE}) {
            WetMosaic none = freshWall();
            refused(none, "of none, piece " + value, INDEX, () -> call.run(none, value));
        }
        WetMosaic hundred = wallOfHundred();
        refused(hundred, "of a hundred, piece 100", INDEX, () -> call.run(hundred, 100));
        refused(hundred, "of a hundred, piece -1", INDEX, () -> call.run(hundred, -1));
        taken("of a hundred, piece 99", () -> call.run(hundred, 99));
    }

    private static void allPieceNumbers() {
        pieceNumbers("flip", (m, piece) -> m.flip(piece));
        pieceNumbers("turn", (m, piece) -> m.turn(piece));
        pieceNumbers("take", (m, piece) -> m.take(piece));
        pieceNumbers("loose", (m, piece) -> m.loose(piece));
        for (int what = 0; what < 8; what++) {
            int asked = what;
            pieceNumbers("piece, what " + what, (m, piece) -> m.piece(piece, asked));
        }
    }

    /** A piece of three cells across, at 4, 4, whose cell of that step is dry, while the others are wet. */
    private static WetMosaic pieceWithDryCell(int step) {
        WetMosaic m = freshWall();
        m.pass(6);
        for (int other = 0; other < 3; other++) {
            if (other != step) {
                m.spread(4 + other, 4, 1, 1);
            }
        }
        m.press(4, 4, 3, true, 1, 2);
        m.pass(12);
        m.spread(0, 0, 10, 8);
        due("the dry cell", m.cell(4 + step, 4, 0), 0);
        due("another cell", m.cell(4 + (step + 1) % 3, 4, 0), 6);
        return m;
    }

    private static void flipNotLoose() {
        says("flip: IllegalStateException if it is not loose");
        for (int step = 0; step < 3; step++) {
            WetMosaic m = pieceWithDryCell(step);
            refused(m, "its cell " + step + " dry", STATE, () -> m.flip(0));
        }
        WetMosaic dry = wallOfThree();
        dry.pass(23);
        refused(dry, "all its cells dry", STATE, () -> dry.flip(0));
        WetMosaic out = wallWithOneOut();
        refused(out, "it is out", STATE, () -> out.flip(0));
    }

    private static void turnNotLoose() {
        says("turn: IllegalStateException if it is not loose");
        for (int step = 0; step < 3; step++) {
            WetMosaic m = pieceWithDryCell(step);
            refused(m, "its cell " + step + " dry", STATE, () -> m.turn(0));
        }
        WetMosaic dry = wallOfThree();
        dry.pass(23);
        dry.spread(0, 0, 10, 8);
        refused(dry, "all its cells dry", STATE, () -> dry.turn(0));
        refused(dry, "its one cell dry", STATE, () -> dry.turn(2));
        WetMosaic out = wallWithOneOut();
        refused(out, "it is out", STATE, () -> out.turn(0));
    }

    private static void turnBeyondTheWall() {
        says("turn: IllegalStateException if then it would reach beyond the wall");
        WetMosaic m = freshWall();
        m.press(0, 7, 2, true, 0, 0);
        m.press(2, 7, 3, true, 0, 0);
        m.press(5, 6, 3, true, 0, 0);
        m.press(9, 0, 2, false, 0, 0);
        m.press(9, 2, 3, false, 0, 0);
        m.press(8, 5, 3, false, 0, 0);
        for (int piece = 0; piece < 6; piece++) {
            int number = piece;
            refused(m, "the piece " + piece, STATE, () -> m.turn(number));
        }
    }

    private static void turnNotWet() {
        says("turn: IllegalStateException if then a cell of it would not be wet");
        for (int step = 1; step < 3; step++) {
            int dry = step;
            WetMosaic m = freshWall();
            m.press(2, 2, 3, true, 0, 0);
            m.press(6, 2, 3, false, 0, 0);
            m.pass(12);
            m.spread(2, 5 - dry, 1, 1);
            m.spread(9 - dry, 2, 1, 1);
            refused(m, "downwards, its cell " + step + " dry", STATE, () -> m.turn(0));
            refused(m, "across, its cell " + step + " dry", STATE, () -> m.turn(1));
        }
        WetMosaic m = new WetMosaic();
        m.spread(0, 0, 3, 1);
        m.spread(7, 0, 1, 3);
        m.press(0, 0, 3, true, 0, 0);
        m.press(7, 0, 3, false, 0, 0);
        refused(m, "downwards onto no mortar", STATE, () -> m.turn(0));
        refused(m, "across onto no mortar", STATE, () -> m.turn(1));
        m.spread(0, 1, 1, 1);
        m.spread(8, 0, 1, 1);
        refused(m, "downwards, the last cell without mortar", STATE, () -> m.turn(0));
        refused(m, "across, the last cell without mortar", STATE, () -> m.turn(1));
    }

    private static void turnCovered() {
        says("turn: IllegalStateException if then a cell of it is covered by another piece");
        for (int step = 1; step < 3; step++) {
            WetMosaic m = freshWall();
            m.press(2, 2, 3, true, 0, 0);
            m.press(6, 2, 3, false, 0, 0);
            m.press(2, 2 + step, 1, true, 0, 0);
            m.press(6 + step, 2, 1, true, 0, 0);
            refused(m, "downwards, its cell " + step, STATE, () -> m.turn(0));
            refused(m, "across, its cell " + step, STATE, () -> m.turn(1));
        }
        WetMosaic m = freshWall();
        m.press(2, 4, 1, true, 0, 0);
        m.press(2, 2, 3, true, 0, 0);
        refused(m, "covered by the piece 0", STATE, () -> m.turn(1));
    }

    private static void takeOut() {
        says("take: IllegalStateException if it is out");
        WetMosaic lifted = wallWithOneOut();
        refused(lifted, "it was lifted", STATE, () -> lifted.take(0));
        WetMosaic chipped = wallOfThree();
        chipped.pass(23);
        chipped.take(1);
        refused(chipped, "it was chipped", STATE, () -> chipped.take(1));
        chipped.spread(3, 3, 1, 3);
        chipped.press(3, 3, 3, false, 0, 0);
        refused(chipped, "another lies there", STATE, () -> chipped.take(1));
    }

    private static void cellBounds() {
        for (int what = 0; what < 3; what++) {
            int asked = what;
            says("cell, what " + what + ": IndexOutOfBoundsException if x is not 0 to 9, or y is not 0 to 7");
            bounds("x", MosaicTest::wallOfThree, 0, 9, INDEX, (m, x) -> m.cell(x, 3, asked));
            bounds("y", MosaicTest::wallOfThree, 0, 7, INDEX, (m, y) -> m.cell(3, y, asked));
        }
        says("cell: IndexOutOfBoundsException if what is not 0 to 2");
        bounds("what", MosaicTest::wallOfThree, 0, 2, INDEX, (m, what) -> m.cell(3, 3, what));
        bounds("of a bare wall, what", WetMosaic::new, 0, 2, INDEX, (m, what) -> m.cell(3, 3, what));
    }

    private static void pieceBounds() {
        says("piece: IndexOutOfBoundsException if what is not 0 to 7");
        bounds("what", MosaicTest::wallOfThree, 0, 7, INDEX, (m, what) -> m.piece(2, what));
        bounds("of one that is out, what", MosaicTest::wallWithOneOut, 0, 7, INDEX, (m, what) -> m.piece(0, what));
    }

    private static void countBounds() {
        says("count: IndexOutOfBoundsException if what is not 0 to 7");
        bounds("what", MosaicTest::wallOfThree, 0, 7, INDEX, (m, what) -> m.count(what));
        bounds("of a bare wall, what", WetMosaic::new, 0, 7, INDEX, (m, what) -> m.count(what));
    }

    private static void offBounds() {
        says("off: IllegalArgumentException if kind is not 0 to 3, or a or b is not 0 to 6");
        bounds("kind", MosaicTest::wallOfThree, 0, 3, ARGUMENT, (m, kind) -> m.off(kind, 1, 2));
        for (int kind = 0; kind < 4; kind++) {
            int k = kind;
            bounds("kind " + k + ", a", MosaicTest::wallOfThree, 0, 6, ARGUMENT, (m, a) -> m.off(k, a, 2));
            bounds("kind " + k + ", b", MosaicTest::wallOfThree, 0, 6, ARGUMENT, (m, b) -> m.off(k, 1, b));
        }
    }

    private static void adviseBounds() {
        says("advise: IllegalArgumentException if kind is not 0 to 3, or a or b is not 0 to 6");
        bounds("kind", MosaicTest::wallOfThree, 0, 3, ARGUMENT, (m, kind) -> m.advise(kind, 1, 2));
        for (int kind = 0; kind < 4; kind++) {
            int k = kind;
            bounds("kind " + k + ", a", MosaicTest::wallOfThree, 0, 6, ARGUMENT, (m, a) -> m.advise(k, a, 2));
            bounds("kind " + k + ", b", MosaicTest::wallOfThree, 0, 6, ARGUMENT, (m, b) -> m.advise(k, 1, b));
        }
        WetMosaic bare = new WetMosaic();
        refused(bare, "kind 4 of a bare wall", ARGUMENT, () -> bare.advise(4, 0, 0));
    }

    private static void mendsAndGapBounds() {
        for (boolean across : new boolean[] {true, false}) {
            says("mends: IndexOutOfBoundsException if x is not 0 to 9, or y is not 0 to 7");
            bounds("x", MosaicTest::wallOfThree, 0, 9, INDEX, (m, x) -> m.mends(x, 3, across));
            bounds("y", MosaicTest::wallOfThree, 0, 7, INDEX, (m, y) -> m.mends(3, y, across));
        }
        says("gap: IndexOutOfBoundsException if x is not 0 to 9, or y is not 0 to 7");
        bounds("x", MosaicTest::wallOfThree, 0, 9, INDEX, (m, x) -> m.gap(x, 3));
        bounds("y", MosaicTest::wallOfThree, 0, 7, INDEX, (m, y) -> m.gap(3, y));
        bounds("of a bare wall, x", WetMosaic::new, 0, 9, INDEX, (m, x) -> m.gap(x, 0));
        bounds("of a bare wall, y", WetMosaic::new, 0, 7, INDEX, (m, y) -> m.gap(0, y));
    }

    private static void passBounds() {
        says("pass: IllegalArgumentException if hours is not 1 to 100");
        bounds("hours", MosaicTest::wallOfThree, 1, 100, ARGUMENT, (m, hours) -> m.pass(hours));
        bounds("of a bare wall, hours", WetMosaic::new, 1, 100, ARGUMENT, (m, hours) -> m.pass(hours));
    }

    public static void main(String[] args) {
        spreadBounds();
        spreadSeveral();
        setSunBounds();
        pressBounds();
        pressBeyondTheWall();
        pressNotWet();
        pressCovered();
        pressAHundred();
        pressSeveral();
        allPieceNumbers();
        flipNotLoose();
        turnNotLoose();
        turnBeyondTheWall();
        turnNotWet();
        turnCovered();
        takeOut();
        cellBounds();
        pieceBounds();
        countBounds();
        offBounds();
        adviseBounds();
        mendsAndGapBounds();
        passBounds();
        finish();
    }
}
