import java.math.BigInteger;

/** The boundary cases of hours, of what is foreseen and of the checksum: promises 15 to 19, nothing refused. */
public final class HourBoundaryTests extends MosaicTest {
    /** The cell 0, 0 is covered by the piece 0, of one cell; the cell 1, 0 is open; both are wet by 12. */
    private static WetMosaic pair(int... suns) {
        WetMosaic m = new WetMosaic();
        setSuns(m, suns);
        m.spread(0, 0, 2, 1);
        m.press(0, 0, 1, true, 1, 2);
        return m;
    }

    /** A pair where this hour of the table alone has a sun. */
    private static WetMosaic pairOfOneSun(int hour, int sun) {
        int[] suns = new int[8];
        suns[hour] = sun;
        return pair(suns);
    }

    private static void passTableGoesRound() {
        says("pass: the sun of the table, by the remainder of 8");
        for (int hour = 0; hour < 8; hour++) {
            WetMosaic m = pairOfOneSun(hour, 1);
            for (int gone = 0; gone < 26; gone++) {
                int times = (gone + 7 - hour) / 8;
                due("open behind " + gone + " hours", m.cell(1, 0, 0), 12 - times);
                due("covered behind " + gone + " hours", m.cell(0, 0, 0), hour % 2 == 0 ? 12 - times : 12);
                m.pass(1);
            }
        }
    }

    private static void passTableInOneCall() {
        says("pass: the table goes round within one call, and goes on with the next");
        WetMosaic m = pair(0, 0, 0, 0, 0, 0, 4, 1);
        m.pass(8);
        cellsAre(m, 0, 0, 8, 7);
        m.pass(7);
        cellsAre(m, 0, 0, 4, 3);
        m.pass(1);
        cellsAre(m, 0, 0, 4, 2);
        WetMosaic long1 = pair(0, 0, 0, 1, 0, 0, 0, 0);
        long1.pass(91);
        cellsAre(long1, 0, 0, 12, 1);
        long1.pass(1);
        cellsAre(long1, 0, 0, 12, 0);
        WetMosaic long2 = pair(0, 0, 1, 0, 0, 0, 0, 0);
        long2.pass(90);
        cellsAre(long2, 0, 0, 1, 1);
        long2.pass(1);
        cellsAre(long2, 0, 0, 0, 0);
    }

    private static void passEachSun() {
        says("pass: the sun 0 to 4, as much less wet, at least 0");
        for (int sun = 0; sun <= 4; sun++) {
            WetMosaic m = pair(sun, sun, sun, sun, sun, sun, sun, sun);
            for (int gone = 0; gone < 16; gone++) {
                int covered = Math.max(0, 12 - (gone + 1) / 2 * sun);
                cellsAre(m, 0, 0, covered, Math.max(0, 12 - gone * sun), -1);
                due("pass(1)", m.pass(1), 12 - (gone + 2) / 2 * sun > 0 ? 1 : 0);
            }
        }
    }

    private static void passAtLeastZero() {
        says("pass: at least 0, where the sun is more than the mortar is wet");
        for (int wet = 1; wet <= 3; wet++) {
            WetMosaic m = pairOfOneSun(2, 4);
            m.spread(1, 0, 1, 1);
            m.press(1, 0, 1, true, 3, 4);
            for (int times = wet; times < 12; times++) {
                m.flip(0);
                m.flip(1);
            }
            m.take(1);
            cellsAre(m, 0, 0, wet, wet, -1);
            due("pass(2)", m.pass(2), 1);
            due("pass(1)", m.pass(1), 0);
            cellsAre(m, 0, 0, 0, 0, -1);
            m.pass(8);
            cellsAre(m, 0, 0, 0, 0, -1);
        }
    }

    private static void passWetByOne() {
        says("pass: mortar wet by 1 dries, an open cell in each hour, a covered one in even hours only");
        WetMosaic odd = lastWetWall();
        odd.press(0, 0, 3, true, 1, 2);
        due("the odd hour 11", odd.pass(1), 1);
        cellsAre(odd, 0, 0, 1, 1, 1, 0);
        due("count(3)", odd.count(3), 1);
        due("the even hour 12", odd.pass(1), 0);
        cellsAre(odd, 0, 0, 0, 0, 0, 0);
        due("count(5)", odd.count(5), 0);
        due("count(4), dry mortar stays", odd.count(4), 80);
    }

    private static void passHoursGoOn() {
        says("pass: hours with an even number, as they go on from 0");
        WetMosaic m = pair(1, 1, 1, 1, 1, 1, 1, 1);
        for (int hour = 0; hour < 23; hour++) {
            due("count(0)", m.count(0), hour);
            due("covered at the hour " + hour, m.cell(0, 0, 0), 12 - (hour + 1) / 2);
            m.pass(1);
        }
        WetMosaic later = new WetMosaic();
        later.pass(99);
        later.spread(0, 0, 2, 1);
        later.press(0, 0, 1, true, 1, 2);
        later.pass(1);
        cellsAre(later, 0, 0, 12, 11);
        later.pass(1);
        cellsAre(later, 0, 0, 11, 10);
    }

    private static void passOneAndAHundred() {
        says("pass: 1 and 100 hours");
        WetMosaic one = new WetMosaic();
        due("pass(1)", one.pass(1), 0);
        due("count(0)", one.count(0), 1);
        WetMosaic hundred = new WetMosaic();
        due("pass(100)", hundred.pass(100), 0);
        due("count(0)", hundred.count(0), 100);
        for (int hour = 1; hour < 100; hour++) {
            one.pass(1);
        }
        due("100 times 1", one.digest(), hundred.digest());
        WetMosaic never = pair(0, 0, 0, 0, 0, 0, 0, 0);
        due("without sun", never.pass(100), 1);
        cellsAre(never, 0, 0, 12, 12, -1);
        WetMosaic odd = pair(0, 4, 0, 4, 0, 4, 0, 4);
        due("sun in odd hours alone", odd.pass(100), 1);
        cellsAre(odd, 0, 0, 12, 0, -1);
    }

    private static void passLoosePieces() {
        says("pass: returns how many pieces are loose then");
        WetMosaic m = freshWall();
        m.press(0, 0, 3, true, 1, 2);
        m.press(0, 1, 2, true, 1, 2);
        m.press(0, 2, 1, true, 1, 2);
        m.press(0, 3, 1, true, 1, 2);
        m.flip(1);
        m.flip(2);
        m.flip(2);
        due("pass(1)", m.pass(1), 4);
        m.take(3);
        due("one is out", m.pass(1), 3);
        due("behind 18 hours", m.pass(16), 3);
        due("behind 19 hours", m.pass(1), 2);
        due("behind 20 hours", m.pass(1), 2);
        due("behind 21 hours", m.pass(1), 1);
        due("behind 22 hours", m.pass(1), 1);
        due("behind 23 hours", m.pass(1), 0);
        due("a wall of pieces", coveredWall().pass(22), 40);
        due("a wall of pieces", coveredWall().pass(23), 0);
    }

    private static void passUncovered() {
        says("pass: a cell whose piece is out or was turned away dries as one that no piece covers");
        WetMosaic m = freshWall();
        m.press(0, 0, 3, true, 1, 2);
        m.press(4, 0, 2, true, 1, 2);
        m.pass(1);
        m.take(1);
        m.turn(0);
        cellsAre(m, 0, 0, 11, 11, 11, 11, 11, 11);
        m.pass(1);
        cellsAre(m, 0, 0, 11, 10, 10, 10, 10, 10);
        due("turned there", m.cell(0, 2, 0), 11);
    }

    private static void passChangedSun() {
        says("pass: by the table as it is then");
        WetMosaic m = pair(4, 0, 0, 0, 0, 0, 0, 0);
        m.pass(1);
        cellsAre(m, 0, 0, 8, 8);
        m.setSun(0, 1);
        m.pass(7);
        cellsAre(m, 0, 0, 8, 8);
        m.pass(1);
        cellsAre(m, 0, 0, 7, 7);
    }

    private static void looseZero() {
        says("loose: 0 if it is not now");
        WetMosaic m = wallOfThree();
        m.pass(22);
        due("at the last hour", m.loose(1), 1);
        m.pass(1);
        for (int piece = 0; piece < 3; piece++) {
            due("dry", m.loose(piece), 0);
        }
        m.take(1);
        due("chipped", m.loose(1), 0);
        WetMosaic out = wallWithOneOut();
        due("lifted, the mortar wet for ever", out.loose(0), 0);
        WetMosaic half = lastWetWall();
        half.spread(1, 0, 2, 1);
        half.press(0, 0, 3, true, 1, 2);
        half.flip(0);
        due("one cell dry", half.loose(0), 0);
    }

    private static void looseByItsDriestCell() {
        says("loose: all its cells are wet");
        for (int step = 0; step < 3; step++) {
            WetMosaic m = freshWall();
            m.pass(4);
            m.spread(0, 0, 3, 1);
            m.press(step, 0, 1, true, 1, 2);
            m.flip(0);
            m.flip(0);
            m.take(0);
            m.press(0, 0, 3, true, 1, 2);
            due("its cell " + step + " the driest", m.loose(1), 19);
            m.pass(18);
            due("piece(1, 6)", m.piece(1, 6), 1);
            m.pass(1);
            due("piece(1, 6)", m.piece(1, 6), 0);
        }
    }

    private static void looseWetByOne() {
        says("loose: wet by 1, at an even and at an odd hour");
        WetMosaic odd = lastWetWall();
        odd.press(0, 0, 2, true, 1, 2);
        due("at the odd hour 11", odd.loose(0), 2);
        odd.pass(1);
        due("at the even hour 12", odd.loose(0), 1);
        odd.pass(1);
        due("at the odd hour 13", odd.loose(0), 0);
    }

    private static void looseAllTheTime() {
        says("loose: -1 if it is loose all the time");
        WetMosaic none = pair(0, 0, 0, 0, 0, 0, 0, 0);
        due("without sun", none.loose(0), -1);
        WetMosaic odd = pair(0, 4, 0, 4, 0, 4, 0, 4);
        due("sun in odd hours alone", odd.loose(0), -1);
        for (int times = 0; times < 11; times++) {
            odd.flip(0);
        }
        due("wet by 1", odd.loose(0), -1);
        for (int times = 0; times < 4; times++) {
            due("pass(100)", odd.pass(100), 1);
            due("later", odd.loose(0), -1);
        }
        odd.setSun(4, 1);
        due("with a sun at the hour 4", odd.loose(0), 5);
    }

    private static void looseLongest() {
        says("loose: at most 200");
        for (int hour = 0; hour < 8; hour += 2) {
            WetMosaic m = pairOfOneSun(hour, 1);
            due("from the hour 0", m.loose(0), 89 + hour);
            m.pass(1);
            due("from the hour 1", m.loose(0), hour == 0 ? 88 : 88 + hour);
        }
        WetMosaic m = new WetMosaic();
        setSuns(m, 1, 0, 0, 0, 0, 0, 0, 0);
        m.pass(1);
        m.spread(0, 0, 1, 1);
        m.press(0, 0, 1, true, 1, 2);
        due("the longest of all", m.loose(0), 96);
        due("pass(95)", m.pass(95), 1);
        due("the last hour", m.loose(0), 1);
        due("pass(1)", m.pass(1), 0);
        due("loose(0) then", m.loose(0), 0);
    }

    private static void looseEachSun() {
        says("loose: behind how many hours, by the suns 1 to 4, at even and odd hours");
        int[] even = {0, 23, 11, 7, 5};
        for (int sun = 1; sun <= 4; sun++) {
            WetMosaic m = pair(sun, sun, sun, sun, sun, sun, sun, sun);
            due("from the hour 0, sun " + sun, m.loose(0), even[sun]);
            WetMosaic later = new WetMosaic();
            setSuns(later, sun, sun, sun, sun, sun, sun, sun, sun);
            later.pass(1);
            later.spread(0, 0, 1, 1);
            later.press(0, 0, 1, true, 1, 2);
            due("from the hour 1, sun " + sun, later.loose(0), even[sun] + 1);
        }
    }

    /** What is foreseen is compared with what happens, from each hour of two rounds. */
    private static void looseAsItHappens() {
        says("loose, dry: as it happens, if nothing is done, and nothing is changed");
        for (int start = 0; start < 17; start++) {
            WetMosaic m = freshWall();
            setSuns(m, 0, 3, 1, 0, 2, 4, 0, 1);
            if (start > 0) {
                m.pass(start);
            }
            m.spread(0, 0, 10, 8);
            m.press(3, 3, 3, false, 1, 2);
            long before = m.digest();
            int loose = m.loose(0);
            int dry = m.dry();
            due("digest()", m.digest(), before);
            due("dry() as loose(0)", dry, loose);
            for (int ahead = loose; ahead > 0; ahead--) {
                due("piece(0, 6) from " + start, m.piece(0, 6), 1);
                due("loose(0) from " + start, m.loose(0), ahead);
                due("dry() from " + start, m.dry(), ahead);
                m.pass(1);
            }
            due("piece(0, 6) then", m.piece(0, 6), 0);
            due("count(5) then", m.count(5), 0);
        }
    }

    private static void looseOfAHundred() {
        says("loose: of the 100th piece, and of those that are out");
        WetMosaic m = wallOfHundred();
        due("loose(99)", m.loose(99), -1);
        due("loose(98)", m.loose(98), 0);
        due("loose(0)", m.loose(0), 0);
        m.setSun(6, 4);
        due("loose(99) with a sun", m.loose(99), 23);
    }

    private static void dryZero() {
        says("dry: 0 if none is");
        WetMosaic m = new WetMosaic();
        due("a bare wall", m.dry(), 0);
        m.pass(7);
        due("a bare wall later", m.dry(), 0);
        due("a dry wall", dryWall().dry(), 0);
        WetMosaic pieces = coveredWall();
        pieces.pass(23);
        due("a dry wall of pieces", pieces.dry(), 0);
        WetMosaic dark = dryWall();
        noSun(dark);
        due("a dry wall without sun", dark.dry(), 0);
    }

    private static void dryWetByOne() {
        says("dry: wet by 1, open and covered, at an even and at an odd hour");
        WetMosaic open = lastWetWall();
        due("open", open.dry(), 1);
        open.press(0, 0, 1, true, 1, 2);
        due("covered, at the odd hour 11", open.dry(), 2);
        open.pass(1);
        due("covered, at the even hour 12", open.dry(), 1);
        open.pass(1);
        due("dry", open.dry(), 0);
        WetMosaic flipped = lastWetWall();
        flipped.pass(1);
        flipped.spread(9, 7, 1, 1);
        flipped.press(9, 7, 1, true, 1, 2);
        for (int times = 12; times > 0; times--) {
            due("flipped", flipped.dry(), 2 * times - 1);
            flipped.flip(0);
        }
        due("flipped until it is dry", flipped.dry(), 0);
    }

    private static void dryNever() {
        says("dry: -1 if not by then");
        WetMosaic open = new WetMosaic();
        noSun(open);
        open.spread(9, 7, 1, 1);
        due("without sun", open.dry(), -1);
        open.setSun(7, 1);
        due("by one hour of the table", open.dry(), 96);
        open.press(9, 7, 1, true, 1, 2);
        due("covered, an odd hour alone", open.dry(), -1);
        open.pass(100);
        open.pass(100);
        open.pass(100);
        due("still", open.dry(), -1);
        open.setSun(6, 4);
        due("by an even hour", open.dry(), 19);
        open.take(0);
        due("lifted, less by 4, 1, 4, 1 and 4", open.dry(), 19);
    }

    private static void dryLongest() {
        says("dry: at most 200");
        for (int hour = 0; hour < 8; hour++) {
            WetMosaic m = new WetMosaic();
            noSun(m);
            m.setSun(hour, 1);
            m.pass(hour + 1);
            m.spread(0, 0, 10, 8);
            due("open", m.dry(), 96);
            m.press(0, 0, 1, true, 1, 2);
            due("covered", m.dry(), hour % 2 == 0 ? 96 : -1);
            m.take(0);
            m.pass(95);
            due("the last hour", m.dry(), 1);
            m.pass(1);
            due("then", m.dry(), 0);
        }
    }

    private static void dryEachSun() {
        says("dry: behind how many hours, by the suns 1 to 4");
        int[] open = {0, 12, 6, 4, 3};
        int[] covered = {0, 23, 11, 7, 5};
        for (int sun = 1; sun <= 4; sun++) {
            WetMosaic m = new WetMosaic();
            setSuns(m, sun, sun, sun, sun, sun, sun, sun, sun);
            m.spread(0, 0, 2, 1);
            due("open, sun " + sun, m.dry(), open[sun]);
            m.press(0, 0, 1, true, 1, 2);
            due("covered, sun " + sun, m.dry(), covered[sun]);
            m.take(0);
            due("lifted, sun " + sun, m.dry(), open[sun]);
        }
    }

    private static void shareOfCells() {
        says("share: cells that are covered, divided by all cells");
        due("a bare wall", new WetMosaic().share(), 0.0);
        due("a wet wall", freshWall().share(), 0.0);
        WetMosaic m = chequeredWall(1, 2);
        due("a wall that is covered whole", m.share(), 1.0);
        for (int out = 1; out <= 80; out++) {
            m.take(80 - out);
            due(out + " are out", m.share(), (80 - out) / 80.0);
        }
        WetMosaic dry = coveredWall();
        dry.pass(40);
        due("a dry wall of pieces", dry.share(), 1.0);
        dry.take(0);
        due("one of them chipped", dry.share(), 0.975);
    }

    /** The checksum without an end of its digits: what is beyond 64 bits is cut off at last. */
    private static final class Sum {
        private BigInteger d = BigInteger.valueOf(967);

        Sum add(int... numbers) {
            for (int x : numbers) {
                d = d.multiply(BigInteger.valueOf(31)).add(BigInteger.valueOf(x));
            }
            return this;
        }

        Sum addBareCells(int cells) {
            for (int c = 0; c < cells; c++) {
                add(-1, -1, -1);
            }
            return this;
        }

        long wrapped() {
            due("more than 64 bits", d.bitLength() > 64, true);
            return d.longValue();
        }
    }

    private static void digestOfANewObject() {
        says("digest: of a new object, with no piece");
        Sum sum = new Sum().add(0, 0, 0, 0, 0, 0, 0, 1).addBareCells(80).add(1, 1, 1, 1, 1, 1, 1, 1);
        due("digest()", new WetMosaic().digest(), sum.wrapped());
    }

    private static void digestInOrder() {
        says("digest: what count(), cell() by 10 * y + x, and piece() tell, and the sun of each hour, in order");
        WetMosaic m = new WetMosaic();
        setSuns(m, 3, 1, 2, 0, 4, 1, 0, 2);
        m.spread(1, 0, 3, 1);
        m.spread(9, 7, 1, 1);
        m.press(1, 0, 2, true, 5, 3);
        m.press(9, 7, 1, false, 0, 6);
        m.flip(1);
        m.pass(2);
        Sum sum = new Sum().add(2, 2, 2, 2, 4, 4, 3, 1);
        sum.addBareCells(1).add(9, 0, 5, 9, 0, 5, 8, -1, -1).addBareCells(75).add(8, 1, 6);
        sum.add(1, 0, 2, 1, 5, 3, 1, 0).add(9, 7, 1, 0, 6, 0, 1, 0).add(3, 1, 2, 0, 4, 1, 0, 2);
        due("digest()", m.digest(), sum.wrapped());
    }

    private static void digestOfOneOut() {
        says("digest: for each piece, also of one that is out");
        WetMosaic m = new WetMosaic();
        m.spread(0, 0, 1, 2);
        m.press(0, 0, 2, false, 4, 2);
        m.flip(0);
        m.take(0);
        Sum sum = new Sum().add(0, 1, 0, 0, 2, 2, 0, 1);
        sum.add(11, -1, -1).addBareCells(9).add(11, -1, -1).addBareCells(69);
        sum.add(0, 0, 2, 0, 2, 4, 0, 1).add(1, 1, 1, 1, 1, 1, 1, 1);
        due("digest()", m.digest(), sum.wrapped());
    }

    private static void digestOfAHundred() {
        says("digest: it wraps around as a 64-bit integer, with 100 pieces too");
        Sum sum = new Sum().add(0, 100, 1, 1, 80, 80, 1, 1).add(12, 99, 1);
        for (int c = 1; c < 80; c++) {
            sum.add(12, -1, -1);
        }
        for (int piece = 0; piece < 99; piece++) {
            sum.add(0, 0, 1, 1, 1, 2, 0, 1);
        }
        sum.add(0, 0, 1, 1, 1, 2, 1, 0).add(0, 0, 0, 0, 0, 0, 0, 0);
        due("digest()", wallOfHundred().digest(), sum.wrapped());
    }

    private static void digestOfACoveredWall() {
        says("digest: of a wall that is covered whole, and is dry");
        WetMosaic m = chequeredWall(0, 6);
        m.pass(100);
        Sum sum = new Sum().add(100, 80, 80, 0, 80, 0, 80, 0);
        for (int c = 0; c < 80; c++) {
            sum.add(0, c, (c / 10 + c) % 2 == 0 ? 0 : 6);
        }
        for (int c = 0; c < 80; c++) {
            boolean even = (c / 10 + c) % 2 == 0;
            sum.add(c % 10, c / 10, 1, 1, even ? 0 : 6, even ? 6 : 0, 0, 0);
        }
        due("digest()", m.digest(), sum.add(1, 1, 1, 1, 1, 1, 1, 1).wrapped());
        due("digest() again", m.digest(), m.digest());
    }

    private static void passTests() {
        passTableGoesRound();
        passTableInOneCall();
        passEachSun();
        passAtLeastZero();
        passWetByOne();
        passHoursGoOn();
        passOneAndAHundred();
        passLoosePieces();
        passUncovered();
        passChangedSun();
    }

    private static void looseTests() {
        looseZero();
        looseByItsDriestCell();
        looseWetByOne();
        looseAllTheTime();
        looseLongest();
        looseEachSun();
        looseAsItHappens();
        looseOfAHundred();
    }

    private static void dryAndShareTests() {
        dryZero();
        dryWetByOne();
        dryNever();
        dryLongest();
        dryEachSun();
        shareOfCells();
    }

    private static void digestTests() {
        digestOfANewObject();
        digestInOrder();
        digestOfOneOut();
        digestOfAHundred();
        digestOfACoveredWall();
    }

    public static void main(String[] args) {
        passTests();
        looseTests();
        dryAndShareTests();
        digestTests();
        finish();
    }
}
