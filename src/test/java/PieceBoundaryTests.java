/** The boundary cases of the wall, of its mortar and of the pieces: promises 1 to 10, where nothing is refused. */
public final class PieceBoundaryTests extends MosaicTest {
    private static void newObject() {
        says("new: a bare wall, each cell has no mortar at first, at the hour 0");
        WetMosaic m = new WetMosaic();
        countsAre(m, 0, 0, 0, 0, 0, 0, 0, 1);
        for (int y = 0; y < 8; y++) {
            for (int what = 0; what < 3; what++) {
                cellsAre(m, what, y, -1, -1, -1, -1, -1, -1, -1, -1, -1, -1);
            }
        }
        due("share()", m.share(), 0.0);
        due("dry()", m.dry(), 0);
        due("gap(0, 0)", m.gap(0, 0), 80);
    }

    private static void newObjectsApart() {
        says("new: an object of its own");
        WetMosaic first = wallOfThree();
        first.setSun(0, 4);
        WetMosaic second = new WetMosaic();
        countsAre(second, 0, 0, 0, 0, 0, 0, 0, 1);
        due("setSun(0, 1)", second.setSun(0, 1), 1);
        due("count(1) of the first", first.count(1), 3);
    }

    private static void spreadWhole() {
        says("spread: the whole wall, and none of it");
        WetMosaic m = new WetMosaic();
        due("spread of a bare wall", m.spread(0, 0, 10, 8), 80);
        due("count(5)", m.count(5), 80);
        WetMosaic full = coveredWall();
        full.pass(4);
        due("spread of a covered wall", full.spread(0, 0, 10, 8), 0);
        due("its mortar", full.cell(9, 7, 0), 10);
    }

    private static void spreadCorners() {
        says("spread: a single cell, at each corner");
        WetMosaic m = new WetMosaic();
        due("spread(0, 0, 1, 1)", m.spread(0, 0, 1, 1), 1);
        due("spread(9, 0, 1, 1)", m.spread(9, 0, 1, 1), 1);
        due("spread(0, 7, 1, 1)", m.spread(0, 7, 1, 1), 1);
        due("spread(9, 7, 1, 1)", m.spread(9, 7, 1, 1), 1);
        cellsAre(m, 0, 0, 12, -1, -1, -1, -1, -1, -1, -1, -1, 12);
        cellsAre(m, 0, 7, 12, -1, -1, -1, -1, -1, -1, -1, -1, 12);
        due("count(4)", m.count(4), 4);
    }

    private static void spreadToTheLastCell() {
        says("spread: wide to 10 - x, high to 8 - y");
        for (int x = 0; x < 10; x++) {
            for (int y = 0; y < 8; y++) {
                WetMosaic m = new WetMosaic();
                due("spread to the last cell", m.spread(x, y, 10 - x, 8 - y), (10 - x) * (8 - y));
                due("count(5)", m.count(5), (10 - x) * (8 - y));
                due("the first cell", m.cell(x, y, 0), 12);
                due("the last cell", m.cell(9, 7, 0), 12);
            }
        }
    }

    private static void spreadInside() {
        says("spread: in all cells of a part of the wall, and in no other");
        WetMosaic m = new WetMosaic();
        due("spread(1, 2, 3, 2)", m.spread(1, 2, 3, 2), 6);
        cellsAre(m, 0, 1, -1, -1, -1, -1, -1);
        cellsAre(m, 0, 2, -1, 12, 12, 12, -1);
        cellsAre(m, 0, 3, -1, 12, 12, 12, -1);
        cellsAre(m, 0, 4, -1, -1, -1, -1, -1);
    }

    private static void spreadAnyMortar() {
        says("spread: wet by 12, whatever was there");
        WetMosaic m = new WetMosaic();
        m.spread(0, 0, 1, 1);
        m.pass(12);
        m.spread(1, 0, 1, 1);
        m.pass(5);
        m.spread(2, 0, 1, 1);
        cellsAre(m, 0, 0, 0, 7, 12, -1);
        due("spread of dry, wet, fresh and none", m.spread(0, 0, 4, 1), 4);
        cellsAre(m, 0, 0, 12, 12, 12, 12, -1);
    }

    private static void spreadAroundPieces() {
        says("spread: cells that no piece covers");
        WetMosaic m = freshWall();
        m.press(0, 0, 2, true, 1, 2);
        m.press(4, 0, 1, true, 1, 2);
        m.press(5, 0, 1, true, 1, 2);
        m.pass(3);
        m.take(1);
        cellsAre(m, 0, 0, 10, 10, 9, 9, 10, 10);
        due("spread over pieces", m.spread(0, 0, 6, 1), 3);
        cellsAre(m, 0, 0, 10, 10, 12, 12, 12, 10);
        due("spread of covered cells", m.spread(0, 0, 2, 1), 0);
        cellsAre(m, 0, 0, 10, 10);
    }

    private static void sunOfEachHour() {
        says("setSun: returns the sun before, 1 at first, of this hour alone");
        WetMosaic m = new WetMosaic();
        for (int hour = 0; hour < 8; hour++) {
            due("setSun(" + hour + ", 4)", m.setSun(hour, 4), 1);
            due("setSun(" + hour + ", 0)", m.setSun(hour, 0), 4);
            due("setSun(" + hour + ", 2)", m.setSun(hour, 2), 0);
        }
        due("setSun(0, 3)", m.setSun(0, 3), 2);
        due("setSun(7, 3)", m.setSun(7, 3), 2);
        due("setSun(0, 3) again", m.setSun(0, 3), 3);
    }

    private static void pressToTheLastCell() {
        says("press: a piece that reaches the wall's last cell");
        WetMosaic across = freshWall();
        WetMosaic downwards = freshWall();
        for (int length = 1; length <= 3; length++) {
            due("across, " + length, across.press(10 - length, length - 1, length, true, 1, 2), length - 1);
            due("its last cell", across.cell(9, length - 1, 1), length - 1);
            due("its first cell", across.cell(10 - length, length - 1, 1), length - 1);
            due("ahead of it", across.cell(9 - length, length - 1, 1), -1);
            due("the next row", across.cell(0, length, 1), -1);
            due("downwards, " + length, downwards.press(length - 1, 8 - length, length, false, 1, 2), length - 1);
            due("its last cell", downwards.cell(length - 1, 7, 1), length - 1);
            due("its first cell", downwards.cell(length - 1, 8 - length, 1), length - 1);
            due("ahead of it", downwards.cell(length - 1, 7 - length, 1), -1);
            due("beside it", downwards.cell(length, 7, 1), -1);
        }
        due("covered across", across.count(6), 6);
        due("covered downwards", downwards.count(6), 6);
        WetMosaic corner = freshWall();
        due("at 7, 7", corner.press(7, 7, 3, true, 1, 2), 0);
        due("at 0, 5", corner.press(0, 5, 3, false, 1, 2), 1);
        cellsAre(corner, 1, 7, 1, -1, -1, -1, -1, -1, -1, 0, 0, 0);
    }

    private static void pressAllCells() {
        says("press: each covers 1 to 3 cells from a first cell on, to the right or downwards");
        for (int length = 1; length <= 3; length++) {
            WetMosaic m = freshWall();
            m.press(3, 3, length, true, 1, 2);
            due("across, covered", m.count(6), length);
            due("the last", m.cell(2 + length, 3, 1), 0);
            due("behind the last", m.cell(3 + length, 3, 1), -1);
            WetMosaic n = freshWall();
            n.press(3, 3, length, false, 1, 2);
            due("downwards, covered", n.count(6), length);
            due("the last", n.cell(3, 2 + length, 1), 0);
            due("behind the last", n.cell(3, 3 + length, 1), -1);
        }
    }

    private static void pressShows() {
        says("press: it shows the front at first, of the colours 0 and 6 too");
        WetMosaic m = freshWall();
        due("press", m.press(0, 0, 1, true, 0, 6), 0);
        due("press", m.press(1, 0, 1, true, 6, 0), 1);
        due("press", m.press(2, 0, 1, true, 0, 0), 2);
        cellsAre(m, 2, 0, 0, 6, 0, -1);
        pieceIs(m, 0, 0, 0, 1, 1, 0, 6, 1, 0);
        pieceIs(m, 1, 1, 0, 1, 1, 6, 0, 1, 0);
        pieceIs(m, 2, 2, 0, 1, 1, 0, 0, 1, 0);
    }

    private static void pressWetByOne() {
        says("press: into mortar wet by 1, which stays so");
        WetMosaic m = lastWetWall();
        due("across", m.press(0, 0, 3, true, 1, 2), 0);
        due("downwards", m.press(9, 5, 3, false, 1, 2), 1);
        cellsAre(m, 0, 0, 1, 1, 1, 1);
        due("piece(1, 6)", m.piece(1, 6), 1);
    }

    private static void pressNumbers() {
        says("press: numbered from 0 in the order of their pressing; one that is refused takes no number");
        WetMosaic m = freshWall();
        due("the first", m.press(9, 7, 1, true, 1, 2), 0);
        refused(m, "covered", STATE, () -> m.press(9, 7, 1, true, 1, 2));
        due("the second", m.press(0, 0, 1, true, 1, 2), 1);
        m.take(1);
        due("the third, the second being out", m.press(0, 0, 1, true, 3, 4), 2);
        due("cell(0, 0, 1)", m.cell(0, 0, 1), 2);
        pieceIs(m, 1, 0, 0, 1, 1, 1, 2, 0, 1);
    }

    private static void pressAHundred() {
        says("press: at most 100 are pressed in all");
        WetMosaic m = freshWall();
        noSun(m);
        for (int number = 0; number < 99; number++) {
            due("press", m.press(0, 0, 1, true, 1, 2), number);
            m.take(number);
        }
        due("the hundredth", m.press(7, 7, 3, true, 3, 4), 99);
        pieceIs(m, 99, 7, 7, 3, 1, 3, 4, 1, 0);
        cellsAre(m, 1, 7, -1, -1, -1, -1, -1, -1, -1, 99, 99, 99);
        refused(m, "one more", STATE, () -> m.press(0, 0, 1, true, 1, 2));
        due("count(1)", m.count(1), 100);
        due("flip(99)", m.flip(99), 4);
        m.pass(1);
        due("loose(99)", m.loose(99), -1);
        due("take(99)", m.take(99), true);
    }

    private static void pressEighty() {
        says("press: a wall that is covered whole, cell by cell");
        WetMosaic m = chequeredWall(1, 2);
        countsAre(m, 0, 80, 80, 80, 80, 80, 80, 0);
        due("cell(9, 7, 1)", m.cell(9, 7, 1), 79);
        due("share()", m.share(), 1.0);
    }

    private static void flipWetByOne() {
        says("flip: mortar wet by 1 is dry then, and the piece is not loose");
        WetMosaic m = lastWetWall();
        m.press(1, 0, 3, true, 4, 5);
        due("flip(0)", m.flip(0), 5);
        cellsAre(m, 0, 0, 1, 0, 0, 0, 1);
        cellsAre(m, 0, 1, 1, 1, 1, 1, 1);
        due("piece(0, 6)", m.piece(0, 6), 0);
        due("loose(0)", m.loose(0), 0);
        refused(m, "flip(0) again", STATE, () -> m.flip(0));
        refused(m, "turn(0)", STATE, () -> m.turn(0));
        due("take(0)", m.take(0), false);
    }

    private static void flipAllCells() {
        says("flip: each of its cells is 1 less wet, and no other");
        for (int length = 1; length <= 3; length++) {
            WetMosaic m = freshWall();
            m.press(0, 0, length, true, 1, 2);
            m.flip(0);
            cellsAre(m, 0, 0, 11, length > 1 ? 11 : 12, length > 2 ? 11 : 12, 12);
            due("below", m.cell(0, 1, 0), 12);
            WetMosaic n = freshWall();
            n.press(9, 8 - length, length, false, 1, 2);
            n.flip(0);
            for (int y = 0; y < 8; y++) {
                due("cell(9, " + y + ", 0)", n.cell(9, y, 0), y < 8 - length ? 12 : 11);
            }
        }
    }

    private static void flipTwelveTimes() {
        says("flip: it shows its other face, until its mortar is dry");
        WetMosaic m = freshWall();
        m.press(5, 5, 1, true, 0, 6);
        for (int times = 1; times <= 12; times++) {
            due("flip " + times, m.flip(0), times % 2 == 1 ? 6 : 0);
            due("cell(5, 5, 0)", m.cell(5, 5, 0), 12 - times);
            due("cell(5, 5, 2)", m.cell(5, 5, 2), times % 2 == 1 ? 6 : 0);
        }
        refused(m, "flip 13", STATE, () -> m.flip(0));
    }

    private static void flipSameFaces() {
        says("flip: also where both faces are of one colour");
        WetMosaic m = freshWall();
        m.press(5, 5, 1, true, 3, 3);
        due("flip(0)", m.flip(0), 3);
        due("cell(5, 5, 0)", m.cell(5, 5, 0), 11);
        due("hour stays", m.count(0), 0);
    }

    private static void flipMixedWet() {
        says("flip: by its driest cell");
        WetMosaic m = lastWetWall();
        m.spread(1, 0, 2, 1);
        m.press(0, 0, 3, true, 1, 2);
        due("flip(0)", m.flip(0), 2);
        cellsAre(m, 0, 0, 0, 11, 11);
        refused(m, "flip(0) again", STATE, () -> m.flip(0));
    }

    private static void turnToTheLastCell() {
        says("turn: to the wall's last cell");
        WetMosaic m = freshWall();
        m.press(0, 5, 3, true, 1, 2);
        m.press(7, 0, 3, false, 3, 4);
        m.press(4, 6, 2, true, 1, 2);
        m.press(8, 3, 2, false, 3, 4);
        due("turn(0)", m.turn(0), 3);
        due("turn(1)", m.turn(1), 3);
        due("turn(2)", m.turn(2), 2);
        due("turn(3)", m.turn(3), 2);
        cellsAre(m, 1, 7, 0, -1, -1, -1, 2, -1, -1, -1, -1, -1);
        cellsAre(m, 1, 6, 0, -1, -1, -1, 2, -1, -1, -1, -1, -1);
        cellsAre(m, 1, 5, 0, -1, -1, -1, -1, -1, -1, -1, -1, -1);
        cellsAre(m, 1, 0, -1, -1, -1, -1, -1, -1, -1, 1, 1, 1);
        cellsAre(m, 1, 1, -1, -1, -1, -1, -1, -1, -1, -1, -1, -1);
        cellsAre(m, 1, 3, -1, -1, -1, -1, -1, -1, -1, -1, 3, 3);
        due("count(6)", m.count(6), 10);
    }

    private static void turnOneCell() {
        says("turn: a piece of one cell, at each corner");
        WetMosaic m = freshWall();
        int[][] corners = {{0, 0}, {9, 0}, {0, 7}, {9, 7}};
        for (int n = 0; n < 4; n++) {
            m.press(corners[n][0], corners[n][1], 1, true, 1, 2);
            due("turn(" + n + ")", m.turn(n), 1);
            due("piece(" + n + ", 3)", m.piece(n, 3), 0);
            due("turn(" + n + ") back", m.turn(n), 1);
            due("piece(" + n + ", 3)", m.piece(n, 3), 1);
            due("its cell", m.cell(corners[n][0], corners[n][1], 1), n);
        }
    }

    private static void turnAllCells() {
        says("turn: about its first cell, the other way round too; the cells that it leaves are not covered");
        WetMosaic m = freshWall();
        m.press(2, 1, 3, false, 1, 2);
        due("turn(0)", m.turn(0), 3);
        cellsAre(m, 1, 1, -1, -1, 0, 0, 0, -1);
        cellsAre(m, 1, 2, -1, -1, -1, -1, -1);
        cellsAre(m, 1, 3, -1, -1, -1, -1, -1);
        due("piece(0, 3)", m.piece(0, 3), 1);
        due("piece(0, 0)", m.piece(0, 0), 2);
        due("piece(0, 1)", m.piece(0, 1), 1);
        due("turn(0) back", m.turn(0), 3);
        cellsAre(m, 1, 1, -1, -1, 0, -1, -1);
        cellsAre(m, 1, 2, -1, -1, 0, -1, -1);
        cellsAre(m, 1, 3, -1, -1, 0, -1, -1);
        due("count(6)", m.count(6), 3);
        due("count(5), the mortar stays", m.count(5), 80);
        due("its mortar is as wet", m.cell(2, 1, 0), 12);
    }

    private static void turnWetByOne() {
        says("turn: on mortar wet by 1, into mortar wet by 1");
        WetMosaic m = lastWetWall();
        m.press(2, 1, 3, true, 1, 2);
        due("turn(0)", m.turn(0), 3);
        due("cell(2, 3, 0)", m.cell(2, 3, 0), 1);
        due("cell(4, 1, 0)", m.cell(4, 1, 0), 1);
    }

    private static void turnWhereOneWas() {
        says("turn: where a piece lies that is out, none covers the cell");
        WetMosaic m = freshWall();
        m.press(2, 2, 1, true, 1, 2);
        m.press(2, 1, 2, true, 1, 2);
        refused(m, "turn(1)", STATE, () -> m.turn(1));
        m.take(0);
        due("turn(1) then", m.turn(1), 2);
        due("cell(2, 2, 1)", m.cell(2, 2, 1), 1);
    }

    private static void takeWetByOne() {
        says("take: a loose one is lifted, wet by 1 too, and its mortar stays");
        WetMosaic m = lastWetWall();
        m.press(1, 0, 3, true, 1, 2);
        due("take(0)", m.take(0), true);
        cellsAre(m, 0, 0, 1, 1, 1, 1, 1);
        cellsAre(m, 1, 0, -1, -1, -1, -1, -1);
        cellsAre(m, 2, 0, -1, -1, -1, -1, -1);
        due("count(4)", m.count(4), 80);
    }

    private static void takeDry() {
        says("take: one that is not loose is chipped, its cells have no mortar then, and no other");
        WetMosaic m = freshWall();
        m.press(1, 0, 3, true, 1, 2);
        m.press(0, 1, 3, false, 1, 2);
        m.pass(23);
        due("take(0)", m.take(0), false);
        cellsAre(m, 0, 0, 0, -1, -1, -1, 0);
        cellsAre(m, 1, 0, -1, -1, -1, -1, -1);
        due("take(1)", m.take(1), false);
        for (int y = 0; y < 8; y++) {
            due("cell(0, " + y + ", 0)", m.cell(0, y, 0), y >= 1 && y <= 3 ? -1 : 0);
        }
        due("count(4)", m.count(4), 74);
        due("spread anew", m.spread(0, 0, 4, 1), 4);
        due("press anew", m.press(1, 0, 3, true, 1, 2), 2);
    }

    /** Which of its cells is the dry one makes no difference: all of them lose their mortar. */
    private static void takeWithOneDryCell() {
        says("take: one with a dry cell is not loose, and its wet cells have no mortar then either");
        for (int step = 0; step < 3; step++) {
            WetMosaic m = lastWetWall();
            for (int other = 0; other < 3; other++) {
                if (other != step) {
                    m.spread(4 + other, 0, 1, 1);
                }
            }
            m.press(4, 0, 3, true, 1, 2);
            m.flip(0);
            due("the dry cell", m.cell(4 + step, 0, 0), 0);
            due("another cell", m.cell(4 + (step + 1) % 3, 0, 0), 11);
            due("piece(0, 6)", m.piece(0, 6), 0);
            due("count(3)", m.count(3), 0);
            due("take(0)", m.take(0), false);
            cellsAre(m, 0, 0, 1, 1, 1, 1, -1, -1, -1, 1);
        }
    }

    private static void takeForGood() {
        says("take: it is out, for good, in every call that takes a piece");
        WetMosaic m = wallWithOneOut();
        for (int times = 0; times < 2; times++) {
            pieceIs(m, 0, 2, 3, 3, 0, 5, 4, 0, 1);
            due("loose(0)", m.loose(0), 0);
            refused(m, "flip(0)", STATE, () -> m.flip(0));
            refused(m, "turn(0)", STATE, () -> m.turn(0));
            refused(m, "take(0)", STATE, () -> m.take(0));
            m.spread(0, 0, 10, 8);
            m.press(2, 3, 3, times == 0, 6, 6);
            m.take(times + 1);
        }
        due("count(2)", m.count(2), 0);
    }

    private static void cellWet() {
        says("cell 0: how wet, 0 dry, -1 without mortar");
        WetMosaic m = new WetMosaic();
        m.spread(0, 0, 2, 1);
        m.press(1, 0, 1, true, 1, 2);
        for (int wet = 12; wet >= 0; wet--) {
            cellsAre(m, 0, 0, wet, 12 - (12 - wet + 1) / 2, -1);
            m.pass(1);
        }
        cellsAre(m, 0, 0, 0, 5, -1);
        m.pass(100);
        cellsAre(m, 0, 0, 0, 0, -1);
    }

    private static void cellCovered() {
        says("cell 1 and 2: the piece 0 and the colour 0 are not none");
        WetMosaic m = freshWall();
        m.press(0, 0, 2, true, 0, 3);
        cellsAre(m, 1, 0, 0, 0, -1);
        cellsAre(m, 2, 0, 0, 0, -1);
        m.flip(0);
        cellsAre(m, 2, 0, 3, 3, -1);
        m.pass(40);
        cellsAre(m, 1, 0, 0, 0, -1);
        cellsAre(m, 2, 0, 3, 3, -1);
        m.take(0);
        cellsAre(m, 1, 0, -1, -1, -1);
        cellsAre(m, 2, 0, -1, -1, -1);
    }

    private static void cellEach() {
        says("cell: x is 0 to 9 to the right, y 0 to 7 downwards");
        WetMosaic m = chequeredWall(1, 2);
        for (int y = 0; y < 8; y++) {
            for (int x = 0; x < 10; x++) {
                due("cell(" + x + ", " + y + ", 1)", m.cell(x, y, 1), 10 * y + x);
                due("cell(" + x + ", " + y + ", 2)", m.cell(x, y, 2), (x + y) % 2 == 0 ? 1 : 2);
            }
        }
    }

    private static void pieceOutAsItWas() {
        says("piece: of one that is out as it was");
        WetMosaic front = freshWall();
        front.press(9, 4, 3, false, 6, 0);
        front.take(0);
        pieceIs(front, 0, 9, 4, 3, 0, 6, 0, 0, 1);
        WetMosaic back = freshWall();
        back.press(7, 7, 3, true, 6, 0);
        back.flip(0);
        back.pass(60);
        back.take(0);
        pieceIs(back, 0, 7, 7, 3, 1, 0, 6, 0, 1);
    }

    private static void pieceLooseOrDry() {
        says("piece 6 and 7: loose, not loose, out");
        WetMosaic m = freshWall();
        m.press(0, 0, 2, true, 1, 2);
        pieceIs(m, 0, 0, 0, 2, 1, 1, 2, 1, 0);
        m.pass(22);
        pieceIs(m, 0, 0, 0, 2, 1, 1, 2, 1, 0);
        m.pass(1);
        pieceIs(m, 0, 0, 0, 2, 1, 1, 2, 0, 0);
        m.take(0);
        pieceIs(m, 0, 0, 0, 2, 1, 1, 2, 0, 1);
    }

    private static void countOfAHundred() {
        says("count 1 and 2: pressed in all, and not out");
        WetMosaic m = wallOfHundred();
        countsAre(m, 0, 100, 1, 1, 80, 80, 1, 1);
        m.take(99);
        countsAre(m, 0, 100, 0, 0, 80, 80, 0, 1);
    }

    private static void countMortar() {
        says("count 3 to 6: dry mortar is mortar, a covered cell can be wet or dry");
        WetMosaic m = new WetMosaic();
        m.spread(0, 0, 5, 1);
        m.press(0, 0, 2, true, 1, 2);
        m.press(2, 0, 1, true, 1, 2);
        countsAre(m, 0, 2, 2, 2, 5, 5, 3, 1);
        m.pass(12);
        countsAre(m, 12, 2, 2, 2, 5, 3, 3, 1);
        m.pass(11);
        countsAre(m, 23, 2, 2, 0, 5, 0, 3, 1);
        m.take(0);
        countsAre(m, 23, 2, 1, 0, 3, 0, 1, 1);
    }

    private static void countWetByOne() {
        says("count 3 and 5: wet by 1 is wet, covered or not, and dry is not");
        WetMosaic m = lastWetWall();
        m.press(0, 0, 3, true, 1, 2);
        countsAre(m, 11, 1, 1, 1, 80, 80, 3, 1);
        m.pass(1);
        countsAre(m, 12, 1, 1, 1, 80, 3, 3, 1);
        m.pass(1);
        countsAre(m, 13, 1, 1, 0, 80, 0, 3, 1);
    }

    private static void countNoGap() {
        says("count 7: no gap on a wall that is covered whole, one on a bare wall");
        due("bare", new WetMosaic().count(7), 1);
        WetMosaic m = coveredWall();
        due("covered", m.count(7), 0);
        m.take(39);
        due("the last piece out", m.count(7), 1);
        m.take(0);
        due("the first piece out too", m.count(7), 2);
    }

    private static void countManyGaps() {
        says("count 7: cells that hang together by left, right, up and down, not by corners or over an edge");
        WetMosaic m = freshWall();
        for (int c = 0; c < 80; c++) {
            if ((c / 10 + c) % 2 == 0) {
                m.press(c % 10, c / 10, 1, true, 1, 2);
            }
        }
        due("chequers", m.count(7), 40);
        WetMosaic lines = freshWall();
        for (int y = 1; y < 8; y += 2) {
            for (int x = 0; x < 9; x += 3) {
                lines.press(x, y, 3, true, 1, 2);
            }
            lines.press(9, y, 1, true, 1, 2);
        }
        due("each second row", lines.count(7), 4);
        lines.take(3);
        due("two rows joined at the right", lines.count(7), 3);
        lines.take(4);
        due("two more joined at the left", lines.count(7), 2);
    }

    private static void fiveHundredAndTwelveCalls() {
        says("An object is used for at most 512 calls");
        WetMosaic m = new WetMosaic();
        m.spread(0, 0, 1, 1);
        for (int call = 2; call <= 511; call++) {
            m.pass(100);
        }
        due("the 512th call", m.count(0), 51000);
    }

    private static void wallTests() {
        newObject();
        newObjectsApart();
        spreadWhole();
        spreadCorners();
        spreadToTheLastCell();
        spreadInside();
        spreadAnyMortar();
        spreadAroundPieces();
        sunOfEachHour();
    }

    private static void pressAndFlipTests() {
        pressToTheLastCell();
        pressAllCells();
        pressShows();
        pressWetByOne();
        pressNumbers();
        pressAHundred();
        pressEighty();
        flipWetByOne();
        flipAllCells();
        flipTwelveTimes();
        flipSameFaces();
        flipMixedWet();
    }

    private static void turnAndTakeTests() {
        turnToTheLastCell();
        turnOneCell();
        turnAllCells();
        turnWetByOne();
        turnWhereOneWas();
        takeWetByOne();
        takeDry();
        takeWithOneDryCell();
        takeForGood();
    }

    private static void whatIsThereTests() {
        cellWet();
        cellCovered();
        cellEach();
        pieceOutAsItWas();
        pieceLooseOrDry();
        countOfAHundred();
        countMortar();
        countWetByOne();
        countNoGap();
        countManyGaps();
        fiveHundredAndTwelveCalls();
    }

    public static void main(String[] args) {
        wallTests();
        pressAndFlipTests();
        turnAndTakeTests();
        whatIsThereTests();
        finish();
    }
}
