import java.io.IOException;
import java.lang.reflect.Constructor;
import java.lang.reflect.Method;
import java.lang.reflect.Modifier;
import java.nio.file.Files;
import java.nio.file.Path;
import java.util.ArrayList;
import java.util.List;
import java.util.Set;
import java.util.TreeSet;
import java.util.regex.Matcher;
import java.util.regex.Pattern;

/** At least one test for each promise of the document: ordinary inputs, edges and wrong inputs. */
public final class PromiseTests extends MosaicTest {
    private static void face() {
        says("face");
        due("final", Modifier.isFinal(WetMosaic.class.getModifiers()), true);
        Set<String> seen = new TreeSet<>();
        for (Method method : WetMosaic.class.getDeclaredMethods()) {
            if (!Modifier.isPrivate(method.getModifiers())) {
                due(method.getName() + " is public", Modifier.isPublic(method.getModifiers()), true);
                StringBuilder text = new StringBuilder(method.getReturnType() + " " + method.getName());
                for (Class<?> type : method.getParameterTypes()) {
                    text.append(' ').append(type);
                }
                for (Class<?> type : method.getExceptionTypes()) {
                    text.append(' ').append(type.getSimpleName());
                }
                seen.add(text.toString());
            }
        }
        String index = " IndexOutOfBoundsException";
        String argument = " IllegalArgumentException";
        String state = " IllegalStateException";
        Set<String> want = new TreeSet<>(Set.of(
            "int spread int int int int" + index + argument,
            "int setSun int int" + index + argument,
            "int press int int int boolean int int" + index + argument + state,
            "int flip int" + index + state,
            "int turn int" + index + state,
            "boolean take int" + index + state,
            "int cell int int int" + index,
            "int piece int int" + index,
            "int count int" + index,
            "int off int int int" + argument,
            "int advise int int int" + argument,
            "int mends int int boolean" + index,
            "int gap int int" + index,
            "int pass int" + argument,
            "int loose int" + index,
            "int dry",
            "double share",
            "long digest"));
        due("methods", seen, want);
        Constructor<?>[] made = WetMosaic.class.getDeclaredConstructors();
        due("constructors", made.length, 1);
        due("constructor's parameters", made[0].getParameterCount(), 0);
    }

    /** Ahead of which calls the interface says what, and the document's first words, as the source has them. */
    private static void heads() throws IOException {
        says("the interface says");
        Pattern head = Pattern.compile("/\\*\\* (A mosaic .*) \\*/| {4}// (---- .*)| {4}public \\w+ (\\w+)\\(.*");
        List<String> seen = new ArrayList<>();
        for (String line : Files.readAllLines(Path.of("src/main/java/WetMosaic.java"))) {
            Matcher found = head.matcher(line);
            for (int group = 1; found.matches() && group <= 3; group++) {
                if (found.group(group) != null) {
                    seen.add(found.group(group));
                }
            }
        }
        due("heads and calls", seen, List.of(
            "A mosaic of pieces with two faces.",
            "---- mortar and sun", "spread", "setSun",
            "---- pieces", "press", "flip", "turn", "take",
            "---- what is there", "cell", "piece", "count",
            "---- patterns and mending", "off", "advise", "mends", "gap",
            "---- hours", "pass", "loose", "dry", "share", "digest"));
    }

    private static void promise1NewObject() {
        says("promise 1");
        WetMosaic m = new WetMosaic();
        for (int what = 0; what < 7; what++) {
            due("count(" + what + ")", m.count(what), 0);
        }
        due("count(7)", m.count(7), 1);
        for (int y = 0; y < 8; y++) {
            for (int x = 0; x < 10; x++) {
                for (int what = 0; what < 3; what++) {
                    due("cell(" + x + ", " + y + ", " + what + ")", m.cell(x, y, what), -1);
                }
            }
        }
        for (int h = 0; h < 8; h++) {
            due("setSun(" + h + ", 1)", m.setSun(h, 1), 1);
        }
    }

    private static void promise2Spread() {
        says("promise 2");
        WetMosaic m = new WetMosaic();
        due("spread(2, 3, 4, 2)", m.spread(2, 3, 4, 2), 8);
        due("cell(2, 3, 0)", m.cell(2, 3, 0), 12);
        due("cell(5, 4, 0)", m.cell(5, 4, 0), 12);
        due("cell(6, 4, 0)", m.cell(6, 4, 0), -1);
        due("cell(5, 5, 0)", m.cell(5, 5, 0), -1);
        due("cell(1, 3, 0)", m.cell(1, 3, 0), -1);
        due("cell(2, 2, 0)", m.cell(2, 2, 0), -1);
        m.press(3, 3, 2, true, 0, 1);
        m.pass(5);
        due("spread of all", m.spread(0, 0, 10, 8), 78);
        due("covered cell stays", m.cell(3, 3, 0), 9);
        due("wet cell is fresh", m.cell(2, 3, 0), 12);
        due("spread again", m.spread(0, 0, 10, 8), 78);
        due("spread of covered cells alone", m.spread(3, 3, 2, 1), 0);
        due("spread at the corner", m.spread(9, 7, 1, 1), 1);
        refused(m, "spread(-1, 0, 1, 1)", INDEX, () -> m.spread(-1, 0, 1, 1));
        refused(m, "spread(10, 0, 0, 1)", INDEX, () -> m.spread(10, 0, 0, 1));
        refused(m, "spread(0, -1, 1, 1)", INDEX, () -> m.spread(0, -1, 1, 1));
        refused(m, "spread(0, 8, 1, 0)", INDEX, () -> m.spread(0, 8, 1, 0));
        refused(m, "spread(0, 0, 0, 1)", ARGUMENT, () -> m.spread(0, 0, 0, 1));
        refused(m, "spread(0, 0, 11, 1)", ARGUMENT, () -> m.spread(0, 0, 11, 1));
        refused(m, "spread(4, 0, 7, 1)", ARGUMENT, () -> m.spread(4, 0, 7, 1));
        refused(m, "spread(0, 0, 1, 0)", ARGUMENT, () -> m.spread(0, 0, 1, 0));
        refused(m, "spread(0, 0, 1, 9)", ARGUMENT, () -> m.spread(0, 0, 1, 9));
        refused(m, "spread(0, 5, 1, 4)", ARGUMENT, () -> m.spread(0, 5, 1, 4));
        refused(m, "spread with the greatest int", ARGUMENT, () -> m.spread(9, 7, Integer.MAX_VALUE, Integer.MAX_VALUE));
        refused(m, "spread with the least int", ARGUMENT, () -> m.spread(9, 7, Integer.MIN_VALUE, 1));
    }

    private static void promise3SetSun() {
        says("promise 3");
        WetMosaic m = new WetMosaic();
        due("setSun(0, 4)", m.setSun(0, 4), 1);
        due("setSun(0, 0)", m.setSun(0, 0), 4);
        due("setSun(7, 2)", m.setSun(7, 2), 1);
        due("setSun(7, 3)", m.setSun(7, 3), 2);
        due("setSun(0, 1)", m.setSun(0, 1), 0);
        refused(m, "setSun(8, 5)", INDEX, () -> m.setSun(8, 5));
        refused(m, "setSun(-1, 0)", INDEX, () -> m.setSun(-1, 0));
        refused(m, "setSun(0, 5)", ARGUMENT, () -> m.setSun(0, 5));
        refused(m, "setSun(7, -1)", ARGUMENT, () -> m.setSun(7, -1));
    }

    private static void promise4Press() {
        says("promise 4");
        WetMosaic m = new WetMosaic();
        m.spread(0, 0, 10, 3);
        due("press across", m.press(7, 0, 3, true, 0, 6), 0);
        due("press downwards", m.press(0, 0, 3, false, 6, 0), 1);
        due("cell(9, 0, 1)", m.cell(9, 0, 1), 0);
        due("cell(9, 0, 2)", m.cell(9, 0, 2), 0);
        due("cell(0, 2, 1)", m.cell(0, 2, 1), 1);
        due("cell(0, 2, 2)", m.cell(0, 2, 2), 6);
        due("cell(1, 0, 1)", m.cell(1, 0, 1), -1);
        due("mortar stays", m.cell(0, 0, 0), 12);
        refused(m, "press at x -1", INDEX, () -> m.press(-1, 0, 0, true, 0, 0));
        refused(m, "press at x 10", INDEX, () -> m.press(10, 0, 1, true, 7, 0));
        refused(m, "press at y -1", INDEX, () -> m.press(0, -1, 1, true, 0, 0));
        refused(m, "press at y 8", INDEX, () -> m.press(0, 8, 1, true, 0, 0));
        refused(m, "press of length 0", ARGUMENT, () -> m.press(0, 0, 0, true, 0, 0));
        refused(m, "press of length 4", ARGUMENT, () -> m.press(0, 7, 4, true, 0, 0));
        refused(m, "press of front 7", ARGUMENT, () -> m.press(1, 1, 1, true, 7, 0));
        refused(m, "press of front -1", ARGUMENT, () -> m.press(1, 1, 1, true, -1, 0));
        refused(m, "press of back 7", ARGUMENT, () -> m.press(1, 1, 1, true, 0, 7));
        refused(m, "press of back -1", ARGUMENT, () -> m.press(1, 1, 1, true, 0, -1));
        refused(m, "press beyond the right", STATE, () -> m.press(9, 1, 2, true, 0, 0));
        refused(m, "press onto no mortar", STATE, () -> m.press(1, 1, 3, false, 0, 0));
        refused(m, "press onto a piece", STATE, () -> m.press(5, 0, 3, true, 0, 0));
        m.spread(0, 7, 10, 1);
        refused(m, "press beyond the bottom", STATE, () -> m.press(5, 7, 2, false, 0, 0));
        m.pass(12);
        due("cell(5, 1, 0)", m.cell(5, 1, 0), 0);
        refused(m, "press into dry mortar", STATE, () -> m.press(5, 1, 1, true, 0, 0));
        pressIntoTheLastWet();
        pressAHundred();
    }

    private static void pressIntoTheLastWet() {
        WetMosaic m = freshWall();
        m.pass(11);
        due("count(5), wet by 1", m.count(5), 80);
        due("press, wet by 1", m.press(2, 2, 2, true, 1, 2), 0);
        due("turn, wet by 1", m.turn(0), 2);
        due("flip, wet by 1", m.flip(0), 2);
        due("piece(0, 6)", m.piece(0, 6), 0);
        due("count(5) then", m.count(5), 78);
    }

    private static void pressAHundred() {
        WetMosaic m = new WetMosaic();
        setSuns(m, 0, 0, 0, 0, 0, 0, 0, 0);
        m.spread(0, 0, 2, 1);
        for (int number = 0; number < 100; number++) {
            due("press " + number, m.press(0, 0, 1, true, 1, 2), number);
            if (number < 99) {
                m.take(number);
            }
        }
        due("count(1)", m.count(1), 100);
        due("piece(99, 6)", m.piece(99, 6), 1);
        refused(m, "press 100", STATE, () -> m.press(1, 0, 1, true, 1, 2));
        refused(m, "press 100 of length 4", ARGUMENT, () -> m.press(1, 0, 4, true, 1, 2));
        refused(m, "flip(100)", INDEX, () -> m.flip(100));
    }

    private static void promise5Flip() {
        says("promise 5");
        WetMosaic m = freshWall();
        m.press(1, 1, 2, true, 3, 5);
        due("flip(0)", m.flip(0), 5);
        due("cell(1, 1, 2)", m.cell(1, 1, 2), 5);
        due("cell(2, 1, 0)", m.cell(2, 1, 0), 11);
        due("cell(1, 1, 0)", m.cell(1, 1, 0), 11);
        due("cell(3, 1, 0)", m.cell(3, 1, 0), 12);
        due("flip(0) again", m.flip(0), 3);
        for (int times = 2; times < 12; times++) {
            m.flip(0);
        }
        due("dried by flips", m.cell(1, 1, 0), 0);
        refused(m, "flip of a dry piece", STATE, () -> m.flip(0));
        m.press(5, 5, 1, true, 0, 0);
        m.take(1);
        refused(m, "flip of a piece that is out", STATE, () -> m.flip(1));
        refused(m, "flip(2)", INDEX, () -> m.flip(2));
        refused(m, "flip(-1)", INDEX, () -> m.flip(-1));
        refused(m, "flip of the greatest int", INDEX, () -> m.flip(Integer.MAX_VALUE));
    }

    private static void promise6Turn() {
        says("promise 6");
        WetMosaic m = freshWall();
        m.press(3, 3, 3, true, 1, 2);
        due("turn(0)", m.turn(0), 3);
        due("cell(3, 3, 1)", m.cell(3, 3, 1), 0);
        due("cell(3, 5, 1)", m.cell(3, 5, 1), 0);
        due("cell(4, 3, 1)", m.cell(4, 3, 1), -1);
        due("piece(0, 3)", m.piece(0, 3), 0);
        due("mortar stays", m.cell(3, 5, 0), 12);
        due("turn(0) back", m.turn(0), 3);
        due("cell(5, 3, 1)", m.cell(5, 3, 1), 0);
        due("cell(3, 4, 1)", m.cell(3, 4, 1), -1);
        m.press(3, 5, 1, true, 1, 2);
        refused(m, "turn onto a piece", STATE, () -> m.turn(0));
        due("turn of a single cell", m.turn(1), 1);
        due("piece(1, 3)", m.piece(1, 3), 0);
        m.press(0, 7, 2, true, 1, 2);
        refused(m, "turn beyond the bottom", STATE, () -> m.turn(2));
        m.press(9, 0, 2, false, 1, 2);
        refused(m, "turn beyond the right", STATE, () -> m.turn(3));
        m.take(1);
        refused(m, "turn of a piece that is out", STATE, () -> m.turn(1));
        refused(m, "turn(4)", INDEX, () -> m.turn(4));
        refused(m, "turn(-1)", INDEX, () -> m.turn(-1));
        m.pass(12);
        due("piece(0, 6)", m.piece(0, 6), 1);
        refused(m, "turn onto dry mortar", STATE, () -> m.turn(0));
        m.pass(12);
        m.spread(0, 0, 10, 8);
        refused(m, "turn of a dry piece", STATE, () -> m.turn(0));
        WetMosaic bare = new WetMosaic();
        bare.spread(0, 0, 2, 1);
        bare.press(0, 0, 2, true, 1, 2);
        refused(bare, "turn onto no mortar", STATE, () -> bare.turn(0));
    }

    private static void promise7Take() {
        says("promise 7");
        WetMosaic m = freshWall();
        m.press(0, 0, 2, true, 1, 2);
        m.press(0, 1, 3, true, 3, 4);
        m.pass(2);
        due("take(0)", m.take(0), true);
        due("mortar stays", m.cell(0, 0, 0), 11);
        due("cell(1, 0, 1)", m.cell(1, 0, 1), -1);
        due("piece(0, 7)", m.piece(0, 7), 1);
        refused(m, "take(0) again", STATE, () -> m.take(0));
        m.pass(30);
        due("take(1)", m.take(1), false);
        due("cell(0, 1, 0)", m.cell(0, 1, 0), -1);
        due("cell(2, 1, 0)", m.cell(2, 1, 0), -1);
        due("cell(3, 1, 0)", m.cell(3, 1, 0), 0);
        due("cell(0, 0, 0)", m.cell(0, 0, 0), 0);
        refused(m, "take(2)", INDEX, () -> m.take(2));
        refused(m, "take(-1)", INDEX, () -> m.take(-1));
        takeHalfDry();
    }

    /** One dry cell is enough that a piece is chipped, and its wet cells lose their mortar too. */
    private static void takeHalfDry() {
        WetMosaic m = new WetMosaic();
        m.spread(0, 0, 1, 1);
        m.pass(6);
        m.spread(1, 0, 1, 1);
        m.press(0, 0, 2, true, 1, 2);
        m.pass(12);
        due("cell(0, 0, 0)", m.cell(0, 0, 0), 0);
        due("cell(1, 0, 0)", m.cell(1, 0, 0), 6);
        due("take(0) half dry", m.take(0), false);
        due("cell(1, 0, 0) then", m.cell(1, 0, 0), -1);
    }

    private static void promise8Cell() {
        says("promise 8");
        WetMosaic m = freshWall();
        m.press(9, 6, 2, false, 4, 2);
        due("cell(9, 7, 0)", m.cell(9, 7, 0), 12);
        due("cell(9, 7, 1)", m.cell(9, 7, 1), 0);
        due("cell(9, 7, 2)", m.cell(9, 7, 2), 4);
        due("cell(0, 0, 1)", m.cell(0, 0, 1), -1);
        due("cell(0, 0, 2)", m.cell(0, 0, 2), -1);
        m.pass(12);
        due("cell(0, 0, 0)", m.cell(0, 0, 0), 0);
        refused(m, "cell(10, 0, 0)", INDEX, () -> m.cell(10, 0, 0));
        refused(m, "cell(-1, 1, 0)", INDEX, () -> m.cell(-1, 1, 0));
        refused(m, "cell(0, 8, 0)", INDEX, () -> m.cell(0, 8, 0));
        refused(m, "cell(0, -1, 0)", INDEX, () -> m.cell(0, -1, 0));
        refused(m, "cell(0, 0, 3)", INDEX, () -> m.cell(0, 0, 3));
        refused(m, "cell(0, 0, -1)", INDEX, () -> m.cell(0, 0, -1));
    }

    private static void promise9Piece() {
        says("promise 9");
        WetMosaic m = freshWall();
        m.press(4, 2, 3, true, 5, 6);
        m.press(1, 5, 2, false, 0, 3);
        pieceIs(m, 0, 4, 2, 3, 1, 5, 6, 1, 0);
        pieceIs(m, 1, 1, 5, 2, 0, 0, 3, 1, 0);
        m.flip(0);
        m.turn(0);
        pieceIs(m, 0, 4, 2, 3, 0, 6, 5, 1, 0);
        m.take(0);
        pieceIs(m, 0, 4, 2, 3, 0, 6, 5, 0, 1);
        m.pass(40);
        pieceIs(m, 1, 1, 5, 2, 0, 0, 3, 0, 0);
        refused(m, "piece(2, 0)", INDEX, () -> m.piece(2, 0));
        refused(m, "piece(-1, 0)", INDEX, () -> m.piece(-1, 0));
        refused(m, "piece(0, 8)", INDEX, () -> m.piece(0, 8));
        refused(m, "piece(0, -1)", INDEX, () -> m.piece(0, -1));
    }

    private static void promise10Count() {
        says("promise 10");
        WetMosaic m = new WetMosaic();
        m.spread(0, 0, 6, 4);
        m.press(0, 2, 3, true, 1, 2);
        m.press(3, 2, 1, true, 1, 2);
        m.press(5, 3, 1, true, 1, 2);
        m.take(2);
        m.pass(12);
        countsAre(m, 12, 3, 2, 2, 24, 4, 4, 1);
        m.pass(12);
        m.spread(9, 7, 1, 1);
        countsAre(m, 24, 3, 2, 0, 25, 1, 4, 1);
        m.take(1);
        countsAre(m, 24, 3, 1, 0, 24, 1, 3, 1);
        refused(m, "count(8)", INDEX, () -> m.count(8));
        refused(m, "count(-1)", INDEX, () -> m.count(-1));
        countGaps();
    }

    /** Cells that touch at corners alone, or over the edge of a row, are gaps of their own. */
    private static void countGaps() {
        WetMosaic m = freshWall();
        m.press(1, 0, 1, true, 0, 0);
        m.press(0, 1, 1, true, 0, 0);
        due("count(7) of a corner", m.count(7), 2);
        WetMosaic middle = freshWall();
        for (int x = 0; x < 9; x += 3) {
            middle.press(x, 3, 3, true, 0, 0);
        }
        due("count(7) with a passage", middle.count(7), 1);
        middle.press(9, 3, 1, true, 0, 0);
        due("count(7) of halves", middle.count(7), 2);
        due("count(7) of a covered wall", coveredWall().count(7), 0);
    }

    private static void promise11Off() {
        says("promise 11");
        WetMosaic m = freshWall();
        due("kind 0, bare", m.off(0, 0, 0), 80);
        due("kind 3, bare", m.off(3, 0, 0), 0);
        m.press(0, 0, 3, true, 1, 2);
        m.press(9, 0, 2, false, 1, 2);
        due("off(0, 1, 0)", m.off(0, 1, 0), 75);
        due("off(0, 2, 1)", m.off(0, 2, 1), 80);
        due("off(1, 1, 2)", m.off(1, 1, 2), 76);
        due("off(1, 2, 1)", m.off(1, 2, 1), 79);
        due("off(2, 1, 2)", m.off(2, 1, 2), 77);
        due("off(2, 2, 1)", m.off(2, 2, 1), 78);
        due("off(3, 0, 0)", m.off(3, 0, 0), 6);
        due("off(3, 6, 5)", m.off(3, 6, 5), 6);
        m.press(4, 7, 2, true, 3, 4);
        due("a piece on the axis fits itself", m.off(3, 0, 0), 6);
        refused(m, "off(4, 0, 0)", ARGUMENT, () -> m.off(4, 0, 0));
        refused(m, "off(-1, 0, 0)", ARGUMENT, () -> m.off(-1, 0, 0));
        refused(m, "off(0, 7, 0)", ARGUMENT, () -> m.off(0, 7, 0));
        refused(m, "off(0, -1, 0)", ARGUMENT, () -> m.off(0, -1, 0));
        refused(m, "off(0, 0, 7)", ARGUMENT, () -> m.off(0, 0, 7));
        refused(m, "off(3, 0, -1)", ARGUMENT, () -> m.off(3, 0, -1));
    }

    private static void promise12Advise() {
        says("promise 12");
        WetMosaic m = freshWall();
        due("without pieces", m.advise(0, 0, 0), -1);
        m.press(0, 0, 1, true, 1, 2);
        m.press(0, 1, 3, true, 1, 2);
        m.press(0, 2, 3, true, 1, 2);
        m.press(0, 3, 2, true, 4, 4);
        long before = m.digest();
        due("the best of several, the smallest number", m.advise(0, 2, 0), 1);
        due("digest() after advise", m.digest(), before);
        due("none makes it better", m.advise(0, 1, 0), -1);
        due("none changes it", m.advise(0, 6, 0), -1);
        due("even rows", m.advise(1, 2, 1), 2);
        due("chequers", m.advise(2, 1, 2), 1);
        m.press(7, 2, 3, true, 2, 1);
        due("mirror", m.advise(3, 0, 0), 2);
        m.flip(2);
        due("mirror as it is", m.advise(3, 0, 0), -1);
        m.take(1);
        due("one that is out does not count", m.advise(0, 2, 0), 0);
        m.pass(40);
        due("a dry one does not count", m.advise(0, 2, 0), -1);
        refused(m, "advise(4, 0, 0)", ARGUMENT, () -> m.advise(4, 0, 0));
        refused(m, "advise(-1, 0, 0)", ARGUMENT, () -> m.advise(-1, 0, 0));
        refused(m, "advise(0, 7, 0)", ARGUMENT, () -> m.advise(0, 7, 0));
        refused(m, "advise(0, -1, 0)", ARGUMENT, () -> m.advise(0, -1, 0));
        refused(m, "advise(0, 0, 7)", ARGUMENT, () -> m.advise(0, 0, 7));
        refused(m, "advise(0, 0, -1)", ARGUMENT, () -> m.advise(0, 0, -1));
    }

    private static void promise13Mends() {
        says("promise 13");
        WetMosaic m = freshWall();
        due("across a bare wall", m.mends(0, 0, true), 32);
        due("down a bare wall", m.mends(9, 7, false), 30);
        m.press(3, 0, 3, false, 0, 0);
        m.press(0, 3, 3, true, 0, 0);
        due("across a gap of nine", m.mends(1, 1, true), 3);
        due("down a gap of nine", m.mends(2, 2, false), 3);
        due("the other gap across", m.mends(9, 0, true), 3 * 2 + 3 + 4 * 4);
        due("the other gap down", m.mends(4, 0, false), 3 * 2 + 2 + 6 * 3);
        due("a covered cell", m.mends(3, 2, true), 0);
        WetMosaic parted = freshWall();
        parted.press(2, 0, 1, true, 0, 0);
        due("a row in two parts", parted.mends(0, 0, true), 1 + 3 + 7 * 4);
        parted.press(0, 4, 1, true, 0, 0);
        due("a column in two parts", parted.mends(0, 0, false), 2 + 1 + 9 * 3);
        due("no gap at all", coveredWall().mends(0, 0, false), 0);
        refused(m, "mends(10, 0, true)", INDEX, () -> m.mends(10, 0, true));
        refused(m, "mends(-1, 0, true)", INDEX, () -> m.mends(-1, 0, true));
        refused(m, "mends(0, 8, false)", INDEX, () -> m.mends(0, 8, false));
        refused(m, "mends(0, -1, false)", INDEX, () -> m.mends(0, -1, false));
    }

    private static void promise14Gap() {
        says("promise 14");
        WetMosaic m = new WetMosaic();
        due("a bare wall", m.gap(5, 5), 80);
        m.spread(0, 0, 10, 8);
        m.press(1, 0, 2, false, 0, 0);
        m.press(0, 2, 1, true, 0, 0);
        due("a small gap", m.gap(0, 1), 2);
        due("the rest", m.gap(9, 7), 75);
        due("a covered cell", m.gap(1, 1), 0);
        m.take(1);
        due("joined again", m.gap(0, 0), 78);
        refused(m, "gap(10, 0)", INDEX, () -> m.gap(10, 0));
        refused(m, "gap(-1, 0)", INDEX, () -> m.gap(-1, 0));
        refused(m, "gap(0, 8)", INDEX, () -> m.gap(0, 8));
        refused(m, "gap(0, -1)", INDEX, () -> m.gap(0, -1));
    }

    private static void promise15Pass() {
        says("promise 15");
        WetMosaic m = freshWall();
        m.press(0, 0, 2, true, 0, 0);
        setSuns(m, 1, 2, 0, 4, 3, 1, 1, 1);
        int[] open = {11, 9, 9, 5, 2, 1, 0, 0, 0};
        int[] beneath = {11, 11, 11, 11, 8, 8, 7, 7, 6};
        for (int h = 0; h < 9; h++) {
            due("pass(1)", m.pass(1), 1);
            due("count(0)", m.count(0), h + 1);
            due("an open cell behind hour " + h, m.cell(5, 5, 0), open[h]);
            due("a covered cell behind hour " + h, m.cell(1, 0, 0), beneath[h]);
        }
        WetMosaic once = new WetMosaic();
        once.spread(0, 0, 2, 1);
        once.press(0, 0, 1, true, 0, 0);
        due("pass(9)", once.pass(9), 1);
        due("an open cell", once.cell(1, 0, 0), 3);
        due("a covered cell", once.cell(0, 0, 0), 7);
        due("pass(100)", once.pass(100), 0);
        due("dry, not gone", once.cell(0, 0, 0), 0);
        due("still no mortar", once.cell(5, 5, 0), -1);
        due("the hour", once.count(0), 109);
        refused(m, "pass(0)", ARGUMENT, () -> m.pass(0));
        refused(m, "pass(-1)", ARGUMENT, () -> m.pass(-1));
        refused(m, "pass(101)", ARGUMENT, () -> m.pass(101));
    }

    private static void promise16Loose() {
        says("promise 16");
        WetMosaic m = freshWall();
        m.press(0, 0, 2, true, 0, 0);
        long before = m.digest();
        due("loose(0)", m.loose(0), 23);
        due("digest() after loose", m.digest(), before);
        m.pass(1);
        due("loose(0) from an odd hour", m.loose(0), 22);
        m.pass(21);
        due("loose(0) at last", m.loose(0), 1);
        m.pass(1);
        due("loose(0) when dry", m.loose(0), 0);
        refused(m, "loose(1)", INDEX, () -> m.loose(1));
        refused(m, "loose(-1)", INDEX, () -> m.loose(-1));
        WetMosaic slow = freshWall();
        setSuns(slow, 0, 4, 0, 4, 0, 4, 1, 4);
        slow.press(0, 0, 2, true, 0, 0);
        slow.press(0, 1, 1, true, 0, 0);
        slow.flip(1);
        slow.pass(7);
        due("behind a weak sun", slow.loose(1), 80);
        slow.setSun(6, 0);
        due("by odd hours alone it never dries", slow.loose(0), -1);
        slow.take(1);
        due("one that is out", slow.loose(1), 0);
        WetMosaic half = new WetMosaic();
        half.spread(0, 0, 1, 1);
        half.pass(6);
        half.spread(1, 0, 1, 1);
        half.press(0, 0, 2, true, 0, 0);
        due("the driest cell tells", half.loose(0), 11);
    }

    private static void promise17Dry() {
        says("promise 17");
        WetMosaic m = new WetMosaic();
        due("a bare wall", m.dry(), 0);
        m.spread(0, 0, 3, 1);
        long before = m.digest();
        due("open cells", m.dry(), 12);
        due("digest() after dry", m.digest(), before);
        m.press(0, 0, 1, true, 0, 0);
        due("a covered cell", m.dry(), 23);
        m.pass(1);
        due("a covered cell from an odd hour", m.dry(), 22);
        setSuns(m, 0, 1, 0, 1, 0, 1, 0, 1);
        due("a covered cell never", m.dry(), -1);
        m.take(0);
        due("open cells by odd hours", m.dry(), 21);
        setSuns(m, 0, 0, 0, 0, 0, 0, 0, 0);
        due("without sun", m.dry(), -1);
        setSuns(m, 1, 0, 0, 0, 0, 0, 0, 0);
        m.spread(2, 0, 1, 1);
        due("by one hour of eight", m.dry(), 96);
        setSuns(m, 4, 4, 4, 4, 4, 4, 4, 4);
        due("in full sun", m.dry(), 3);
        m.pass(3);
        due("when dry", m.dry(), 0);
    }

    private static void promise18Share() {
        says("promise 18");
        WetMosaic m = freshWall();
        due("none", m.share(), 0.0);
        m.press(0, 0, 3, true, 0, 0);
        due("3 of 80", m.share(), 0.0375);
        m.press(5, 5, 1, true, 0, 0);
        due("4 of 80", m.share(), 0.05);
        m.take(0);
        due("1 of 80", m.share(), 0.0125);
        due("all", coveredWall().share(), 1.0);
    }

    /** The checksum made anew from the answers of the other calls. */
    private static long digestByCalls(WetMosaic m, int... suns) {
        long d = 967;
        for (int what = 0; what < 8; what++) {
            d = d * 31 + m.count(what);
        }
        for (int y = 0; y < 8; y++) {
            for (int x = 0; x < 10; x++) {
                for (int what = 0; what < 3; what++) {
                    d = d * 31 + m.cell(x, y, what);
                }
            }
        }
        for (int number = 0; number < m.count(1); number++) {
            for (int what = 0; what < 8; what++) {
                d = d * 31 + m.piece(number, what);
            }
        }
        for (int one : suns) {
            d = d * 31 + one;
        }
        return d;
    }

    private static void promise19Digest() {
        says("promise 19");
        WetMosaic bare = new WetMosaic();
        due("a new object", bare.digest(), digestByCalls(bare, 1, 1, 1, 1, 1, 1, 1, 1));
        WetMosaic m = new WetMosaic();
        m.spread(1, 1, 7, 6);
        setSuns(m, 1, 0, 2, 3, 4, 0, 1, 2);
        m.press(1, 1, 3, true, 6, 5);
        m.press(1, 2, 2, false, 4, 3);
        m.press(5, 5, 1, false, 2, 1);
        m.flip(1);
        m.take(2);
        m.pass(3);
        due("pieces and suns", m.digest(), digestByCalls(m, 1, 0, 2, 3, 4, 0, 1, 2));
        due("again", m.digest(), m.digest());
    }

    public static void main(String[] args) throws IOException {
        face();
        heads();
        promise1NewObject();
        promise2Spread();
        promise3SetSun();
        promise4Press();
        promise5Flip();
        promise6Turn();
        promise7Take();
        promise8Cell();
        promise9Piece();
        promise10Count();
        promise11Off();
        promise12Advise();
        promise13Mends();
        promise14Gap();
        promise15Pass();
        promise16Loose();
        promise17Dry();
        promise18Share();
        promise19Digest();
        finish();
    }
}
