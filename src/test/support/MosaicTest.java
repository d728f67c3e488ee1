/** What the tests of the project share: walls to begin with, and the comparing of answers. */
abstract class MosaicTest {
    /** A call whose answer is due. */
    interface Call {
        Object run();
    }

    /** A call with one number in it. */
    interface CallWith {
        Object run(WetMosaic m, int value);
    }

    /** How a new wall to try something on is made. */
    interface Wall {
        WetMosaic make();
    }

    static final Class<?> INDEX = IndexOutOfBoundsException.class;
    static final Class<?> ARGUMENT = IllegalArgumentException.class;
    static final Class<?> STATE = IllegalStateException.class;

    private static String sentence = "";
    private static int wrong = 0;

    /** Names what of the document the next comparisons are about. */
    static void says(String text) {
        sentence = text;
    }

    static void due(String what, Object got, Object want) {
        if (!want.equals(got)) {
            wrong++;
            System.out.println(sentence + ": " + what + " answered " + got + ", due is " + want);
        }
    }

    /** What a call answers, or the class of what it throws. */
    private static Object answerOf(Call call) {
        try {
            return call.run();
        } catch (RuntimeException e) {
            return e.getClass();
        }
    }

    /** The call throws just this class, and what can be seen stays as it was. */
    static void refused(WetMosaic m, String what, Class<?> want, Call call) {
        long before = m.digest();
        due(what, answerOf(call), want);
        due("digest() after " + what, m.digest(), before);
    }

    /** The call throws nothing. */
    static void taken(String what, Call call) {
        due(what + " is an answer", answerOf(call) instanceof Class, false);
    }

    /** An argument is taken from low to high, and refused beyond, each time on a new wall. */
    static void bounds(String what, Wall wall, int low, int high, Class<?> thrown, CallWith call) {
        for (int value = low; value <= high; value++) {
            int fit = value;
            WetMosaic m = wall.make();
            taken(what + " " + value, () -> call.run(m, fit));
        }
        for (int value : new int[] {low - 1, high + 1, Integer.MIN_VALUE, Integer.MAX_VALUE}) {
            WetMosaic m = wall.make();
            refused(m, what + " " + value, thrown, () -> call.run(m, value));
        }
    }

    static void cellsAre(WetMosaic m, int what, int y, int... facts) {
        for (int x = 0; x < facts.length; x++) {
            due("cell(" + x + ", " + y + ", " + what + ")", m.cell(x, y, what), facts[x]);
        }
    }

    static void pieceIs(WetMosaic m, int piece, int... facts) {
        for (int what = 0; what < 8; what++) {
            due("piece(" + piece + ", " + what + ")", m.piece(piece, what), facts[what]);
        }
    }

    static void countsAre(WetMosaic m, int... counts) {
        for (int what = 0; what < 8; what++) {
            due("count(" + what + ")", m.count(what), counts[what]);
        }
    }

    static void setSuns(WetMosaic m, int... suns) {
        for (int h = 0; h < 8; h++) {
            m.setSun(h, suns[h]);
        }
    }

    static void noSun(WetMosaic m) {
        setSuns(m, 0, 0, 0, 0, 0, 0, 0, 0);
    }

    /** The whole wall is wet by 12. */
    static WetMosaic freshWall() {
        WetMosaic m = new WetMosaic();
        m.spread(0, 0, 10, 8);
        return m;
    }

    /** The whole wall is wet by 1, at the hour 11. */
    static WetMosaic lastWetWall() {
        WetMosaic m = freshWall();
        m.pass(11);
        return m;
    }

    /** The whole wall is dry, at the hour 12. */
    static WetMosaic dryWall() {
        WetMosaic m = freshWall();
        m.pass(12);
        return m;
    }

    /** The whole wall is covered, by 40 pieces. */
    static WetMosaic coveredWall() {
        WetMosaic m = freshWall();
        for (int y = 0; y < 8; y++) {
            for (int x = 0; x < 10; x += 2) {
                m.press(x, y, 2, true, (x / 2 + y) % 7, y % 7);
            }
        }
        return m;
    }

    /** Each cell has a piece of its own, with its number 10 * y + x: it shows a where x + y is even, else b. */
    static WetMosaic chequeredWall(int a, int b) {
        WetMosaic m = freshWall();
        for (int c = 0; c < 80; c++) {
            boolean even = (c / 10 + c) % 2 == 0;
            m.press(c % 10, c / 10, 1, true, even ? a : b, even ? b : a);
        }
        return m;
    }

    /** A wet wall with three loose pieces, each with room to be turned. */
    static WetMosaic wallOfThree() {
        WetMosaic m = freshWall();
        m.press(0, 0, 2, true, 1, 2);
        m.press(3, 3, 3, false, 3, 4);
        m.press(9, 7, 1, true, 5, 6);
        return m;
    }

    /** A wet wall without sun; 100 pieces were pressed there, and all but the last are out. */
    static WetMosaic wallOfHundred() {
        WetMosaic m = freshWall();
        noSun(m);
        for (int number = 0; number < 100; number++) {
            m.press(0, 0, 1, true, 1, 2);
            if (number < 99) {
                m.take(number);
            }
        }
        return m;
    }

    /** A wet wall without sun, on which the piece 0 was pressed, flipped, turned and lifted. */
    static WetMosaic wallWithOneOut() {
        WetMosaic m = freshWall();
        noSun(m);
        m.press(2, 3, 3, true, 4, 5);
        m.flip(0);
        m.turn(0);
        m.take(0);
        return m;
    }

    /** Ends the test, with exit code 1 if an answer was not the one that is due. */
    static void finish() {
        System.out.println(wrong == 0 ? "all answers are as due" : wrong + " answers are not as due");
        if (wrong != 0) {
            System.exit(1);
        }
    }
}
