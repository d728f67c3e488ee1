/** The boundary cases of patterns, gaps and mending: promises 11 to 14, where nothing is refused. */
public final class PatternBoundaryTests extends MosaicTest {
    /** A covered wall whose rows show a where y is even, else b. */
    private static WetMosaic stripedWall(int a, int b) {
        WetMosaic m = freshWall();
        for (int y = 0; y < 8; y++) {
            int colour = y % 2 == 0 ? a : b;
            for (int x = 0; x < 9; x += 3) {
                m.press(x, y, 3, true, colour, 6);
            }
            m.press(9, y, 1, true, colour, 6);
        }
        return m;
    }

    private static void offBareWall() {
        says("off: none is no colour, on a bare wall; by the kind 3 none fits none");
        WetMosaic m = new WetMosaic();
        for (int colour = 0; colour <= 6; colour++) {
            due("off(0, " + colour + ", 0)", m.off(0, colour, 0), 80);
            due("off(1, " + colour + ", 0)", m.off(1, colour, 0), 80);
            due("off(2, 0, " + colour + ")", m.off(2, 0, colour), 80);
            due("off(3, " + colour + ", 0)", m.off(3, colour, 0), 0);
            due("off(3, 0, " + colour + ")", m.off(3, 0, colour), 0);
        }
    }

    private static void offOneColour() {
        says("off: by the kind 0 each cell shows a");
        for (int colour = 0; colour <= 6; colour += 6) {
            WetMosaic m = stripedWall(colour, colour);
            due("all fit", m.off(0, colour, 3), 0);
            due("none fits", m.off(0, 3, colour), 80);
            due("b does not matter", m.off(0, colour, colour), 0);
            m.take(31);
            due("one shows none", m.off(0, colour, 3), 1);
        }
    }

    private static void offRows() {
        says("off: by the kind 1 each cell shows a with an even y, b with an odd y");
        WetMosaic m = stripedWall(0, 5);
        due("all fit", m.off(1, 0, 5), 0);
        due("none fits", m.off(1, 5, 0), 80);
        due("even rows fit", m.off(1, 0, 4), 40);
        due("odd rows fit", m.off(1, 4, 5), 40);
        due("by one colour", m.off(0, 5, 0), 40);
        due("by chequers", m.off(2, 0, 5), 40);
    }

    private static void offChequers() {
        says("off: by the kind 2 each cell shows a, if x + y is even, otherwise b");
        WetMosaic m = chequeredWall(0, 5);
        due("all fit", m.off(2, 0, 5), 0);
        due("none fits", m.off(2, 5, 0), 80);
        due("even cells fit", m.off(2, 0, 4), 40);
        due("odd cells fit", m.off(2, 4, 5), 40);
        due("by rows", m.off(1, 0, 5), 40);
    }

    private static void offCorners() {
        says("off: rows and chequers at the wall's corners");
        int[][] corners = {{0, 0}, {9, 0}, {0, 7}, {9, 7}};
        int[] rows = {1, 1, 2, 2};
        int[] chequers = {1, 2, 2, 1};
        for (int n = 0; n < 4; n++) {
            for (int colour = 1; colour <= 2; colour++) {
                WetMosaic m = freshWall();
                m.press(corners[n][0], corners[n][1], 1, true, colour, 0);
                due("off(1, 1, 2) of the corner " + n, m.off(1, 1, 2), colour == rows[n] ? 79 : 80);
                due("off(2, 1, 2) of the corner " + n, m.off(2, 1, 2), colour == chequers[n] ? 79 : 80);
            }
        }
    }

    private static void offMirror() {
        says("off: by the kind 3 each cell shows what the cell 9 - x, y shows");
        for (int x = 0; x < 10; x++) {
            WetMosaic m = freshWall();
            m.press(x, 7, 1, true, 0, 1);
            due("one at " + x, m.off(3, 0, 0), 2);
            m.press(9 - x, 6, 1, true, 0, 1);
            due("its mirror in another row", m.off(3, 0, 0), 4);
            m.press(9 - x, 7, 1, true, 0, 1);
            due("its mirror", m.off(3, 0, 0), 2);
            m.flip(2);
            due("its mirror of another colour", m.off(3, 0, 0), 4);
            due("colours do not matter", m.off(3, 6, 1), 4);
        }
    }

    private static void offMirrorMiddle() {
        says("off: by the kind 3, in the middle and on a wall that is covered whole");
        WetMosaic m = freshWall();
        m.press(4, 0, 2, true, 0, 1);
        due("a piece at 4 and 5", m.off(3, 0, 0), 0);
        m.press(4, 1, 3, true, 0, 1);
        due("a piece at 4 to 6", m.off(3, 0, 0), 2);
        due("a striped wall", stripedWall(1, 2).off(3, 0, 0), 0);
        due("a chequered wall", chequeredWall(1, 2).off(3, 0, 0), 80);
    }

    private static void offDryAndOut() {
        says("off: a dry piece shows its colour, one that is out does not");
        WetMosaic m = freshWall();
        m.press(0, 0, 3, true, 1, 2);
        m.press(0, 1, 2, true, 1, 2);
        m.pass(40);
        due("dry", m.off(0, 1, 0), 75);
        m.take(0);
        due("chipped", m.off(0, 1, 0), 78);
        m.take(1);
        due("bare again", m.off(0, 1, 0), 80);
    }

    private static void adviseNone() {
        says("advise: -1 if by none fewer do not fit");
        WetMosaic bare = new WetMosaic();
        for (int kind = 0; kind < 4; kind++) {
            due("a bare wall, kind " + kind, bare.advise(kind, 0, 0), -1);
        }
        WetMosaic m = freshWall();
        m.press(0, 0, 1, true, 1, 2);
        due("it fits now", m.advise(0, 1, 0), -1);
        due("neither face fits", m.advise(0, 3, 2), -1);
        due("mirrored it does not fit either way", m.advise(3, 0, 0), -1);
        m.press(0, 1, 3, true, 2, 2);
        due("both faces fit", m.advise(1, 1, 2), -1);
    }

    private static void adviseAsManyOff() {
        says("advise: -1 if as many do not fit by the best");
        WetMosaic rows = freshWall();
        rows.press(0, 0, 2, false, 1, 2);
        due("one cell fits either way, by rows", rows.advise(1, 1, 2), -1);
        rows.press(1, 0, 3, false, 2, 1);
        due("two cells instead of one", rows.advise(1, 1, 2), 1);
        WetMosaic chequers = freshWall();
        chequers.press(0, 0, 2, true, 1, 2);
        due("one cell fits either way, by chequers", chequers.advise(2, 1, 2), -1);
        chequers.press(2, 0, 3, true, 2, 1);
        due("two cells instead of one", chequers.advise(2, 1, 2), 1);
    }

    private static void adviseSmallest() {
        says("advise: of several the one with the smallest number");
        WetMosaic m = freshWall();
        for (int n = 0; n < 4; n++) {
            m.press(9 - n, 7, 1, true, 1, 2);
        }
        for (int n = 0; n < 4; n++) {
            due("of the rest", m.advise(0, 2, 0), n);
            m.flip(n);
        }
        due("all flipped", m.advise(0, 2, 0), -1);
        due("back again", m.advise(0, 1, 0), 0);
        m.take(0);
        due("back again without the first", m.advise(0, 1, 0), 1);
        WetMosaic mirror = freshWall();
        mirror.press(9, 0, 1, true, 1, 2);
        mirror.press(0, 0, 1, true, 2, 1);
        due("either of two mirrored", mirror.advise(3, 0, 0), 0);
    }

    private static void adviseBest() {
        says("advise: so that the fewest cells do not fit");
        for (int best = 0; best < 3; best++) {
            WetMosaic m = freshWall();
            for (int n = 0; n < 3; n++) {
                m.press(0, n, n == best ? 3 : 2, true, 1, 2);
            }
            due("the longest", m.advise(0, 2, 0), best);
        }
        WetMosaic mirror = freshWall();
        mirror.press(0, 0, 1, true, 1, 2);
        mirror.press(9, 0, 1, true, 2, 2);
        mirror.press(0, 1, 2, true, 3, 4);
        mirror.press(8, 1, 2, true, 4, 4);
        due("four cells rather than two", mirror.advise(3, 0, 0), 2);
    }

    private static void adviseLooseOnly() {
        says("advise: the loose piece");
        WetMosaic m = freshWall();
        m.press(0, 0, 3, true, 1, 2);
        m.pass(11);
        m.press(0, 1, 2, true, 1, 2);
        m.pass(1);
        due("wet by 1, or more", m.cell(0, 1, 0), 1);
        due("the first is better", m.advise(0, 2, 0), 0);
        m.take(0);
        due("wet by 1 is loose", m.advise(0, 2, 0), 1);
        m.pass(1);
        due("dry is not", m.advise(0, 2, 0), -1);
        WetMosaic half = lastWetWall();
        half.spread(1, 0, 1, 1);
        half.press(0, 0, 2, true, 2, 1);
        half.flip(0);
        due("one cell is dry", half.advise(0, 2, 0), -1);
        WetMosaic out = wallWithOneOut();
        due("the piece is out", out.advise(0, 4, 0), -1);
    }

    private static void adviseTheHundredth() {
        says("advise: the 100th piece");
        WetMosaic m = wallOfHundred();
        due("it is loose", m.advise(0, 2, 0), 99);
        m.take(99);
        due("all are out", m.advise(0, 2, 0), -1);
        due("the last of 80", chequeredWall(1, 2).advise(0, 1, 0), 1);
    }

    private static void adviseChangesNothing() {
        says("advise: nothing is changed");
        WetMosaic m = lastWetWall();
        m.press(0, 0, 3, true, 1, 2);
        m.press(9, 0, 3, false, 2, 1);
        long before = m.digest();
        for (int kind = 0; kind < 4; kind++) {
            m.advise(kind, 2, 1);
            due("digest() after the kind " + kind, m.digest(), before);
        }
    }

    /** A wall whose row 0 has a gap of its own from 0 on, so many cells long. */
    private static WetMosaic rowGap(int cells) {
        WetMosaic m = freshWall();
        for (int x = 0; x < 10; x += 2) {
            m.press(x, 1, 2, true, 1, 2);
        }
        if (cells < 10) {
            m.press(cells, 0, 1, true, 1, 2);
        }
        return m;
    }

    /** A wall whose column 9 has a gap of its own from 0 on, so many cells long. */
    private static WetMosaic columnGap(int cells) {
        WetMosaic m = freshWall();
        for (int y = 0; y < 8; y += 2) {
            m.press(8, y, 2, false, 1, 2);
        }
        if (cells < 8) {
            m.press(9, cells, 1, true, 1, 2);
        }
        return m;
    }

    private static void mendsOneLine() {
        says("mends: each piece covers 1 to 3 cells");
        int[] needed = {0, 1, 1, 1, 2, 2, 2, 3, 3, 3, 4};
        for (int cells = 1; cells <= 10; cells++) {
            WetMosaic m = rowGap(cells);
            due("a row of " + cells + " across", m.mends(0, 0, true), needed[cells]);
            due("a row of " + cells + " across, from its end", m.mends(cells - 1, 0, true), needed[cells]);
            due("a row of " + cells + " downwards", m.mends(0, 0, false), cells);
            due("gap of a row of " + cells, m.gap(0, 0), cells);
        }
        for (int cells = 1; cells <= 8; cells++) {
            WetMosaic m = columnGap(cells);
            due("a column of " + cells + " downwards", m.mends(9, 0, false), needed[cells]);
            due("a column of " + cells + " downwards, from its end", m.mends(9, cells - 1, false), needed[cells]);
            due("a column of " + cells + " across", m.mends(9, 0, true), cells);
            due("gap of a column of " + cells, m.gap(9, 0), cells);
        }
    }

    private static void mendsCovered() {
        says("mends, gap: 0 if it is covered");
        WetMosaic m = coveredWall();
        for (int c = 0; c < 80; c++) {
            due("mends across", m.mends(c % 10, c / 10, true), 0);
            due("mends downwards", m.mends(c % 10, c / 10, false), 0);
            due("gap", m.gap(c % 10, c / 10), 0);
        }
        WetMosaic one = freshWall();
        one.press(0, 0, 1, true, 1, 2);
        due("the piece 0 across", one.mends(0, 0, true), 0);
        due("the piece 0 downwards", one.mends(0, 0, false), 0);
        due("gap of the piece 0", one.gap(0, 0), 0);
        due("the rest across", one.mends(1, 0, true), 3 + 7 * 4);
        due("the rest downwards", one.mends(1, 0, false), 3 * 10);
        due("gap of the rest", one.gap(1, 0), 79);
    }

    private static void mendsBareWall() {
        says("mends, gap: of a bare wall, whether it has mortar or not");
        WetMosaic m = new WetMosaic();
        for (int wet = 0; wet < 3; wet++) {
            due("across", m.mends(0, 0, true), 32);
            due("downwards", m.mends(9, 7, false), 30);
            for (int x = 0; x < 10; x++) {
                for (int y = 0; y < 8; y += 7) {
                    due("gap(" + x + ", " + y + ")", m.gap(x, y), 80);
                }
            }
            m.spread(0, 0, 5, 8);
            m.pass(6);
        }
    }

    private static void mendsOneGapAlone() {
        says("mends, gap: of the gap of this cell, and of no other");
        WetMosaic m = rowGap(4);
        due("the first part across", m.mends(3, 0, true), 2);
        due("the second part across", m.mends(5, 0, true), 2);
        due("the second part downwards", m.mends(9, 0, false), 5);
        due("below across", m.mends(0, 7, true), 6 * 4);
        due("below downwards", m.mends(0, 7, false), 10 * 2);
        due("gap of the first part", m.gap(0, 0), 4);
        due("gap of the second part", m.gap(9, 0), 5);
        due("gap below", m.gap(5, 2), 60);
    }

    /** The gap is like a U, so that a row and a column of it are in two parts. */
    private static void mendsLinesInParts() {
        says("mends: a line of a gap in parts needs pieces for each part");
        WetMosaic upright = freshWall();
        for (int y = 0; y < 6; y += 3) {
            upright.press(4, y, 3, false, 1, 2);
        }
        upright.press(4, 6, 1, true, 1, 2);
        due("across", upright.mends(0, 0, true), 7 * (2 + 2) + 4);
        due("downwards", upright.mends(9, 0, false), 9 * 3 + 1);
        due("gap", upright.gap(0, 0), 73);
        WetMosaic lying = freshWall();
        for (int x = 0; x < 9; x += 3) {
            lying.press(x, 4, 3, true, 1, 2);
        }
        due("across", lying.mends(0, 0, true), 7 * 4 + 1);
        due("downwards", lying.mends(0, 7, false), 9 * (2 + 1) + 3);
        due("gap", lying.gap(0, 7), 71);
    }

    private static void gapByCorners() {
        says("gap: cells hang together by left, right, up and down alone");
        WetMosaic m = freshWall();
        for (int c = 0; c < 80; c++) {
            if ((c / 10 + c) % 2 == 1) {
                m.press(c % 10, c / 10, 1, true, 1, 2);
            }
        }
        for (int c = 0; c < 80; c++) {
            int own = (c / 10 + c) % 2 == 0 ? 1 : 0;
            due("gap", m.gap(c % 10, c / 10), own);
            due("mends across", m.mends(c % 10, c / 10, true), own);
            due("mends downwards", m.mends(c % 10, c / 10, false), own);
        }
    }

    private static void gapOverEdges() {
        says("gap: none hangs together over an edge of the wall");
        WetMosaic m = coveredWall();
        m.take(4);
        m.take(5);
        due("the end of row 0", m.gap(9, 0), 2);
        due("the beginning of row 1", m.gap(0, 1), 2);
        WetMosaic column = coveredWall();
        column.take(0);
        column.take(35);
        due("the top", column.gap(0, 0), 2);
        due("the bottom", column.gap(1, 7), 2);
    }

    private static void gapEachWay() {
        says("gap: by left, right, up and down each");
        WetMosaic m = chequeredWall(1, 2);
        m.take(44);
        int[] beside = {43, 45, 34, 54};
        for (int n = 0; n < 4; n++) {
            m.take(beside[n]);
            due("from the middle", m.gap(4, 4), n + 2);
            due("from beside", m.gap(beside[n] % 10, beside[n] / 10), n + 2);
        }
        due("across", m.mends(4, 4, true), 3);
        due("downwards", m.mends(4, 4, false), 3);
        due("count(7)", m.count(7), 1);
    }

    /** A way of one cell's width that goes to and fro through the whole wall. */
    private static void gapLongWay() {
        says("gap: however long the way is");
        WetMosaic m = freshWall();
        for (int y = 1; y < 8; y += 2) {
            int from = y % 4 == 1 ? 0 : 1;
            for (int n = 0; n < 3; n++) {
                m.press(from + 3 * n, y, 3, true, 1, 2);
            }
        }
        due("from its beginning", m.gap(0, 0), 44);
        due("from its end", m.gap(0, 7), 44);
        due("across", m.mends(0, 0, true), 4 * 4 + 4);
        due("downwards", m.mends(0, 0, false), 3 + 8 * 4 + 2);
        due("count(7)", m.count(7), 1);
    }

    private static void gapOfOneThatIsOut() {
        says("gap: a piece that is out covers no cell");
        WetMosaic m = coveredWall();
        m.pass(40);
        due("covered", m.gap(4, 3), 0);
        m.take(17);
        due("its gap", m.gap(4, 3), 2);
        due("its gap across", m.mends(5, 3, true), 1);
        due("its gap downwards", m.mends(5, 3, false), 2);
        due("beside it", m.gap(6, 3), 0);
    }

    private static void mendsBeyondAHundred() {
        says("mends: nothing is said of how many can be pressed yet");
        WetMosaic m = wallOfHundred();
        due("across", m.mends(5, 5, true), 3 + 7 * 4);
        due("downwards", m.mends(5, 5, false), 30);
        due("gap", m.gap(5, 5), 79);
    }

    private static void mendsChangesNothing() {
        says("off, mends, gap: they change nothing");
        WetMosaic m = wallOfThree();
        long before = m.digest();
        m.off(3, 1, 2);
        m.mends(5, 5, true);
        m.mends(5, 5, false);
        m.gap(5, 5);
        due("digest()", m.digest(), before);
        due("gap again", m.gap(5, 5), 74);
        due("gap once more", m.gap(5, 5), 74);
        due("mends again", m.mends(5, 5, true), m.mends(5, 5, true));
    }

    private static void offTests() {
        offBareWall();
        offOneColour();
        offRows();
        offChequers();
        offCorners();
        offMirror();
        offMirrorMiddle();
        offDryAndOut();
    }

    private static void adviseTests() {
        adviseNone();
        adviseAsManyOff();
        adviseSmallest();
        adviseBest();
        adviseLooseOnly();
        adviseTheHundredth();
        adviseChangesNothing();
    }

    private static void gapTests() {
        mendsOneLine();
        mendsCovered();
        mendsBareWall();
        mendsOneGapAlone();
        mendsLinesInParts();
        gapByCorners();
        gapOverEdges();
        gapEachWay();
        gapLongWay();
        gapOfOneThatIsOut();
        mendsBeyondAHundred();
        mendsChangesNothing();
    }

    public static void main(String[] args) {
        offTests();
        adviseTests();
        gapTests();
        finish();
    }
}
