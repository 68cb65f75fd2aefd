import java.math.BigInteger;
import java.util.ArrayList;
import java.util.List;

/**
 * Each sentence of the document that names a boundary, in the document's order: an input at the edge, and one just
 * beyond it. Behind each refused call all that the object tells is compared with an object that was not asked.
 */
public final class EdgeTest {
    private static final Class<?> INDEX = IndexOutOfBoundsException.class;
    private static final Class<?> ARGUMENT = IllegalArgumentException.class;
    private static final Class<?> STATE = IllegalStateException.class;
    private static final int LEAST = Integer.MIN_VALUE;
    private static final int MOST = Integer.MAX_VALUE;
    /** 24 times this wraps around to 8. */
    private static final int ROW_THAT_WRAPS = 178956971;
    private static final int UP = 0;
    private static final int RIGHT = 1;
    private static final int DOWN = 2;
    private static final int LEFT = 3;
    private static final int[][] NO_CELLS = {{-1, 0}, {24, 0}, {0, -1}, {0, 16}, {-1, 15}, {24, 15}, {23, -1},
        {23, 16}, {24, -1}, {LEAST, 0}, {MOST, 0}, {0, LEAST}, {0, MOST}, {0, ROW_THAT_WRAPS}, {MOST, MOST}};

    private static String sentence = "";
    private static int sentences = 0;
    private static int checks = 0;
    private static int checksAhead = 0;
    private static int wrong = 0;

    private interface Recipe {
        MeanderFarm make();
    }

    private interface Call {
        double on(MeanderFarm x);
    }

    public static void main(String[] args) {
        theHead();
        thePlain();
        theRiver();
        straightCells();
        bulges();
        bulgesBeside();
        thrownCells();
        banksAtTheRims();
        necks();
        theFlow();
        farms();
        wearInAYear();
        bulgeInAYear();
        floodInAYear();
        lakesInAYear();
        promise1();
        promises2To4();
        promise5();
        promise6();
        promise7();
        promise8();
        promise9();
        promise10();
        promise11();
        promise12();
        promise13();
        promise14();
        promise15();
        promise16();
        promise17();
        promise18();
        endSentence();
        System.out.println(sentences + " sentences, " + checks + " answers, " + wrong + " of them wrong");
        if (wrong != 0) {
            System.exit(1);
        }
    }

    // ---- how a sentence is tested

    /** Begins the test of a sentence. */
    private static void says(String words) {
        endSentence();
        sentence = words;
        sentences++;
        checksAhead = checks;
    }

    /** A sentence needs two inputs at least: one at the edge, one beyond. */
    private static void endSentence() {
        if (sentences > 0 && checks - checksAhead < 2) {
            fail("has less than two answers");
        }
    }

    private static void fail(String how) {
        wrong++;
        System.out.println("\"" + sentence + "\": " + how);
    }

    private static void due(String call, double got, double want) {
        checks++;
        if (got != want) {
            fail(call + " answered " + got + ", due is " + want);
        }
    }

    /** The exception must be just this one, and all that the object tells must be as if it had not been asked. */
    private static void refused(Recipe recipe, Class<?> want, String call, Call made) {
        checks++;
        String got = outcome(recipe.make(), made);
        if (!got.equals(want.getName())) {
            fail(call + ": " + got + ", due is " + want.getName());
        }
        if (!view(() -> asked(recipe, made)).equals(view(recipe))) {
            fail(call + " changed something");
        }
    }

    /** For calls that answer, but must change nothing. */
    private static void changesNothing(Recipe recipe, String call, Call made) {
        checks++;
        String got = outcome(recipe.make(), made);
        if (!got.startsWith("answered")) {
            fail(call + ": " + got);
        }
        if (!view(() -> asked(recipe, made)).equals(view(recipe))) {
            fail(call + " changed something");
        }
    }

    private static String outcome(MeanderFarm x, Call made) {
        try {
            return "answered " + made.on(x);
        } catch (RuntimeException e) {
            return e.getClass().getName();
        }
    }

    private static MeanderFarm asked(Recipe recipe, Call made) {
        MeanderFarm x = recipe.make();
        outcome(x, made);
        return x;
    }

    /** All that an object tells, and what becomes of it; by several, as none is good for more than 512 calls. */
    private static List<Object> view(Recipe recipe) {
        List<Object> told = new ArrayList<>();
        for (int what = 0; what < 6; what++) {
            MeanderFarm x = recipe.make();
            for (int cell = 0; cell < 384; cell++) {
                told.add(x.cell(cell % 24, cell / 24, what));
            }
        }
        for (int what = 0; what < 5; what++) {
            MeanderFarm x = recipe.make();
            int cells = x.count(1);
            for (int index = 0; index < cells; index++) {
                told.add(x.course(index, what));
            }
        }
        viewTotals(told, recipe.make());
        viewYears(told, recipe.make());
        return told;
    }

    private static void viewTotals(List<Object> told, MeanderFarm x) {
        for (int what = 0; what < 8; what++) {
            told.add(x.count(what));
        }
        for (int what = 0; what < 4; what++) {
            told.add(x.neck(what));
        }
        for (int farm = 0; farm < x.count(4); farm++) {
            for (int what = 0; what < 5; what++) {
                told.add(x.farm(farm, what));
            }
            told.add(x.loses(farm));
            told.add(x.advise(farm, 12));
        }
        for (int what = 0; what < 3; what++) {
            told.add(x.foresee(100, what));
        }
        told.add(x.winding());
        told.add(x.digest());
    }

    private static void viewYears(List<Object> told, MeanderFarm x) {
        told.add(x.pass(1));
        told.add(x.digest());
        told.add(x.pass(50));
        told.add(x.digest());
        for (int year = 0; year < 12; year++) {
            told.add(x.setFlow(year, 1));
        }
    }

    // ---- plains to start from

    private static MeanderFarm plain() {
        return new MeanderFarm();
    }

    /** The course 0..5 in the row 8, 6..8 at (5, 7), (6, 7), (7, 7), from 9 at (7, 8) on in the row 8. */
    private static MeanderFarm oneBulge() {
        MeanderFarm x = new MeanderFarm();
        x.slip(6, UP);
        return x;
    }

    /** As oneBulge(), but all its banks held by stones, except the one above it, (6, 6). */
    private static MeanderFarm oneBank() {
        MeanderFarm x = oneBulge();
        for (int column = 8; column <= 11; column++) {
            x.setStones(column, 9, true);
        }
        return x;
    }

    /** Two bulges upwards side by side, from the columns 4 and 7: 6 at (5, 7) and 9 at (6, 7) are a neck. */
    private static MeanderFarm oneNeck() {
        MeanderFarm x = new MeanderFarm();
        x.slip(4, UP);
        x.slip(9, UP);
        return x;
    }

    /** As oneNeck(), but two rows high: 7 at (5, 6) and 12 at (6, 6) are a neck, and 8 and 11 below them. */
    private static MeanderFarm highNeck() {
        MeanderFarm x = oneNeck();
        x.slip(5, UP);
        x.slip(12, UP);
        return x;
    }

    /** A bulge of so many rows, with its legs in the columns beside this one. */
    private static MeanderFarm tall(int column, int rows, int side) {
        MeanderFarm x = new MeanderFarm();
        for (int row = 0; row < rows; row++) {
            x.slip(column + row, side);
        }
        return x;
    }

    /** The course turns back to its first cell: 0 at (0, 8) and 9 at (1, 8) are a neck, and three more within. */
    private static MeanderFarm neckAtFirst() {
        MeanderFarm x = tall(1, 3, DOWN);
        x.slip(7, LEFT);
        return x;
    }

    /** The same at the right end: 22 at (22, 8) and 31, the last one, are a neck. */
    private static MeanderFarm neckAtLast() {
        MeanderFarm x = tall(22, 3, DOWN);
        x.slip(22, RIGHT);
        return x;
    }

    /** Two necks alike, (11, 14) and (13, 16), of which a break through one undoes the other one. */
    private static MeanderFarm twoAlike() {
        MeanderFarm x = new MeanderFarm();
        x.slip(6, UP);
        x.slip(14, UP);
        x.slip(11, UP);
        x.dig(8, 11);
        x.slip(9, DOWN);
        return x;
    }

    /** Bends, a neck, lakes, stones, wear, farms, years gone by and a break: whatever a refused call could spoil. */
    private static MeanderFarm busy() {
        MeanderFarm x = oneNeck();
        x.slip(14, UP);
        x.pass(2);
        x.dig(6, 9);
        x.addFarm(5, 6, 6, 4);
        x.addFarm(0, 0, 24, 16);
        x.setStones(20, 8, true);
        x.setHardness(6, 6, 5);
        x.setFlow(5, 7);
        return x;
    }

    private static MeanderFarm sixFarms() {
        MeanderFarm x = busy();
        x.addFarm(0, 0, 1, 1);
        x.addFarm(23, 15, 1, 1);
        x.addFarm(6, 6, 3, 3);
        x.addFarm(6, 6, 3, 3);
        return x;
    }

    /** Bulges as high and as deep as the plain all along the river: 144 cells, and two more for each one sideways. */
    private static MeanderFarm longCourse(int sideways) {
        MeanderFarm x = new MeanderFarm();
        for (int column = 1; column < 24; column += 3) {
            int side = column % 2 == 1 ? UP : DOWN;
            int top = x.cell(column, 8, 3);
            for (int row = 0; row < (side == UP ? 8 : 7); row++) {
                x.slip(top + row, side);
            }
        }
        for (int k = 0; k < sideways; k++) {
            x.slip(x.cell(2 + 6 * k, 4, 3), RIGHT);
        }
        return x;
    }

    private static void setAllFlows(MeanderFarm x, int flow) {
        for (int year = 0; year < 12; year++) {
            x.setFlow(year, flow);
        }
    }

    private static int cellNumber(int x, int y) {
        return x + 24 * y;
    }

    /** What cells the course has from a number on. */
    private static void dueCourse(String call, MeanderFarm x, int from, int... cells) {
        for (int k = 0; k < cells.length; k++) {
            due(call + ": course(" + (from + k) + ", 0)", x.course(from + k, 0), cells[k]);
        }
    }

    // ---- the head, and the terms

    private static void theHead() {
        says("An object is used for at most 512 calls after it has been made");
        MeanderFarm years = new MeanderFarm();
        for (int call = 1; call <= 511; call++) {
            years.pass(100);
        }
        due("the 512th call, count(0)", years.count(0), 51100);
        MeanderFarm worn = oneBulge();
        setAllFlows(worn, 9);
        for (int column = 8; column <= 11; column++) {
            worn.setStones(column, 9, true);
        }
        worn.setStones(5, 6, true);
        for (int call = 19; call <= 511; call++) {
            worn.pass(100);
        }
        due("the 512th call, cell(6, 6, 1)", worn.cell(6, 6, 1), 493 * 100 * 9);

        says("Time is told in years, from 0");
        due("a new object", plain().count(0), 0);
        MeanderFarm one = plain();
        one.pass(1);
        due("behind a year", one.count(0), 1);
    }

    private static void thePlain() {
        says("The plain has 24 columns, x, 0 to 23");
        due("cell(0, 0, 0)", plain().cell(0, 0, 0), 3);
        due("cell(23, 0, 0)", plain().cell(23, 0, 0), 3);
        refused(EdgeTest::busy, INDEX, "cell(-1, 0, 0)", x -> x.cell(-1, 0, 0));
        refused(EdgeTest::busy, INDEX, "cell(24, 0, 0)", x -> x.cell(24, 0, 0));

        says("and 16 rows, y, 0 to 15");
        due("cell(0, 15, 0)", plain().cell(0, 15, 0), 3);
        refused(EdgeTest::busy, INDEX, "cell(0, -1, 0)", x -> x.cell(0, -1, 0));
        refused(EdgeTest::busy, INDEX, "cell(0, 16, 0)", x -> x.cell(0, 16, 0));
        refused(EdgeTest::busy, INDEX, "a row that wraps around", x -> x.cell(0, ROW_THAT_WRAPS, 0));

        says("the cell x + 24 * y");
        due("the column 0", plain().course(0, 0), 192);
        due("the column 23", plain().course(23, 0), 215);
        due("the row 0", tall(6, 8, UP).course(14, 0), 6);
        due("the row 15", tall(6, 7, DOWN).course(12, 0), 5 + 24 * 15);

        says("A cell has a hardness, 1 to 9 (3, at first), stones or none (none, at first), and wear (0, at first)");
        int[] first = {3, 0, 0};
        for (int what = 0; what < 3; what++) {
            MeanderFarm x = plain();
            int alike = 0;
            for (int cell = 0; cell < 384; cell++) {
                alike += x.cell(cell % 24, cell / 24, what) == first[what] ? 1 : 0;
            }
            due("how many cells of 384 have it, " + what, alike, 384);
        }
    }

    private static void theRiver() {
        says("At first it is the row y = 8, from the left to the right: from the column 0 to the column 23");
        for (int index = 0; index < 24; index++) {
            due("course(" + index + ", 0)", plain().course(index, 0), cellNumber(index, 8));
        }
        refused(EdgeTest::plain, INDEX, "course(24, 0)", x -> x.course(24, 0));

        says("The direction of a cell of the course is that to the next one (the last one has none)");
        due("the last but one", plain().course(22, 1), RIGHT);
        due("the last one", plain().course(23, 1), -1);
        due("the last but one, of a longer course", tall(22, 1, UP).course(24, 1), DOWN);
        due("the last one, of a longer course", tall(22, 1, UP).course(25, 1), -1);
        due("up", oneBulge().course(5, 1), UP);
        due("right", oneBulge().course(6, 1), RIGHT);
        due("down", oneBulge().course(8, 1), DOWN);
        due("left", neckAtFirst().course(6, 1), LEFT);
        dueCorner(tall(1, 8, UP), 8, cellNumber(0, 0), RIGHT);
        dueCorner(tall(22, 8, UP), 31, cellNumber(23, 0), DOWN);
        dueCorner(tall(1, 7, DOWN), 7, cellNumber(0, 15), RIGHT);
        dueCorner(tall(22, 7, DOWN), 30, cellNumber(23, 15), UP);
    }

    private static void dueCorner(MeanderFarm x, int index, int cell, int direction) {
        due("in a corner of the plain, the cell", x.course(index, 0), cell);
        due("in a corner of the plain, the direction", x.course(index, 1), direction);
    }

    private static void straightCells() {
        says("A cell of the course is straight, if it is neither the first one nor the last one");
        due("the first one", plain().course(0, 2), 0);
        due("the second one", plain().course(1, 2), 1);
        due("the last but one", plain().course(22, 2), 1);
        due("the last one", plain().course(23, 2), 0);
        refused(EdgeTest::busy, STATE, "slip of the first one", x -> x.slip(0, DOWN));
        refused(EdgeTest::busy, STATE, "slip of the last one", x -> x.slip(x.count(1) - 1, DOWN));
        due("slip of the second one", plain().slip(1, DOWN), 26);
        due("slip of the last but one", plain().slip(22, DOWN), 26);

        says("and the cell i - 1 and it have the same direction");
        int[] straight = {0, 1, 1, 1, 1, 0, 0, 1, 0, 0, 1};
        for (int index = 0; index < straight.length; index++) {
            due("course(" + index + ", 2)", oneBulge().course(index, 2), straight[index]);
        }
        for (int index : new int[] {5, 6, 8, 9}) {
            refused(EdgeTest::oneBulge, STATE, "slip(" + index + ", 2)", x -> x.slip(index, DOWN));
            refused(EdgeTest::oneBulge, STATE, "slip(" + index + ", 0)", x -> x.slip(index, UP));
        }
    }

    private static void bulges() {
        says("to a side n (a direction which is neither d nor its opposite)");
        due("across, upwards", plain().slip(5, UP), 26);
        due("across, downwards", plain().slip(5, DOWN), 26);
        refused(EdgeTest::plain, STATE, "along", x -> x.slip(5, RIGHT));
        refused(EdgeTest::plain, STATE, "against", x -> x.slip(5, LEFT));
        Recipe high = () -> tall(6, 4, UP);
        due("across, to the left", high.make().slip(7, LEFT), 34);
        due("across, to the right", high.make().slip(13, RIGHT), 34);
        refused(high, STATE, "along, upwards", x -> x.slip(7, UP));
        refused(high, STATE, "against, downwards", x -> x.slip(7, DOWN));
        refused(high, STATE, "along, downwards", x -> x.slip(13, DOWN));
        refused(high, STATE, "against, upwards", x -> x.slip(13, UP));

        says("puts three cells in the place of this one into the course: those in the direction n, in this order");
        MeanderFarm x = plain();
        due("slip(5, 0)", x.slip(5, UP), 26);
        dueCourse("upwards", x, 4, 196, 172, 173, 174, 198, 199);
        due("the cell itself is out of it", x.cell(5, 8, 3), -1);
        due("and no lake", x.cell(5, 8, 4), 0);
        MeanderFarm left = high.make();
        left.slip(7, LEFT);
        dueCourse("to the left", left, 5, 197, 173, 172, 148, 124, 125, 101);
        MeanderFarm right = high.make();
        right.slip(13, RIGHT);
        dueCourse("to the right", right, 12, 127, 128, 152, 176, 175, 199);

        says("It can be, if all three are in the plain");
        due("up to the row 0", tall(6, 7, UP).slip(13, UP), 40);
        refused(() -> tall(6, 8, UP), STATE, "above it", y -> y.slip(14, UP));
        due("down to the row 15", tall(6, 6, DOWN).slip(12, DOWN), 38);
        refused(() -> tall(6, 7, DOWN), STATE, "below it", y -> y.slip(13, DOWN));
        due("to the column 0", tall(2, 4, DOWN).slip(3, LEFT), 34);
        refused(() -> tall(1, 4, DOWN), STATE, "left of it", y -> y.slip(3, LEFT));
        due("to the column 23", tall(21, 4, UP).slip(28, RIGHT), 34);
        refused(() -> tall(22, 4, UP), STATE, "right of it", y -> y.slip(29, RIGHT));
    }

    private static void bulgesBeside() {
        says("none of them is in the course");
        refused(EdgeTest::oneBulge, STATE, "the right one is", x -> x.slip(4, UP));
        due("one to the left of that", oneBulge().slip(3, UP), 28);
        refused(EdgeTest::oneBulge, STATE, "the left one is", x -> x.slip(10, UP));
        due("one to the right of that", oneBulge().slip(11, UP), 28);
        refused(() -> tall(6, 2, UP), STATE, "the highest one is", x -> x.slip(6, RIGHT));
        refused(() -> tall(6, 2, UP), STATE, "the lowest one is", x -> x.slip(6, LEFT));
        due("one above the lowest one", tall(6, 3, UP).slip(7, LEFT), 32);
        due("one below the highest one", tall(6, 4, UP).slip(7, RIGHT), 34);

        says("none has stones");
        for (int column = 5; column <= 7; column++) {
            int at = column;
            refused(() -> withStones(at, 7), STATE, "stones at " + column, x -> x.slip(6, UP));
            due("away from the stones at " + column, withStones(at, 7).slip(6, DOWN), 26);
        }
        due("stones left of the three", withStones(4, 7).slip(6, UP), 26);
        due("stones right of the three", withStones(8, 7).slip(6, UP), 26);
        due("stones on the cell itself", withStones(6, 8).slip(6, UP), 26);
        MeanderFarm away = withStones(6, 7);
        away.setStones(6, 7, false);
        due("taken away again", away.slip(6, UP), 26);

        says("the course would have at most 150 cells");
        MeanderFarm most = longCourse(2);
        due("148 cells", most.count(1), 148);
        due("150 cells", most.slip(most.cell(14, 4, 3), RIGHT), 150);
        refused(() -> longCourse(3), STATE, "152 cells", x -> x.slip(x.cell(20, 4, 3), RIGHT));
        due("the same bulge with two cells less", longCourse(2).slip(longCourse(2).cell(20, 4, 3), RIGHT), 150);

        says("Their wear is 0 then");
        MeanderFarm worn = oneBulge();
        worn.pass(3);
        due("all wear ahead of it", worn.count(7), 45);
        worn.slip(11, DOWN);
        for (int column = 8; column <= 10; column++) {
            due("one of the three", worn.cell(column, 9, 1), 0);
        }
        due("the one beside them", worn.cell(11, 9, 1), 9);
        due("all wear behind it", worn.count(7), 18);

        says("and lakes among them are no lakes any more");
        MeanderFarm lakes = highNeck();
        lakes.dig(7, 12);
        due("lakes", lakes.count(2), 4);
        lakes.slip(7, DOWN);
        due("among them", lakes.cell(5, 7, 4), 0);
        due("among them too", lakes.cell(6, 7, 4), 0);
        due("not among them", lakes.cell(5, 8, 4), 10);
        due("nor this one", lakes.cell(6, 8, 4), 10);
        due("lakes then", lakes.count(2), 2);
    }

    private static MeanderFarm withStones(int column, int row) {
        MeanderFarm x = new MeanderFarm();
        x.setStones(column, row, true);
        return x;
    }

    private static void dueThrown(String call, MeanderFarm x, int index, int side, int bank) {
        due(call + ", course(" + index + ", 3)", x.course(index, 3), side);
        due(call + ", course(" + index + ", 4)", x.course(index, 4), bank);
    }

    private static void thrownCells() {
        says("the nearest cell j less than i whose direction differs from that of the cell j - 1 is its bend");
        MeanderFarm x = oneBulge();
        dueThrown("between two bends", x, 7, UP, cellNumber(6, 6));
        dueThrown("a bend itself", x, 9, -1, -1);
        dueThrown("just behind it", x, 10, DOWN, cellNumber(8, 9));
        dueThrown("ahead of the first bend", x, 4, -1, -1);

        says("(j is 1 at least)");
        MeanderFarm first = tall(1, 1, DOWN);
        dueThrown("the bend is 1", first, 2, DOWN, cellNumber(1, 10));
        dueThrown("1 itself", first, 1, -1, -1);
        dueThrown("0, though it goes down", first, 0, -1, -1);
        dueThrown("no bend: 1", plain(), 1, -1, -1);
        dueThrown("no bend: 4", plain(), 4, -1, -1);
        dueThrown("0 goes down, 1 too", tall(1, 2, DOWN), 1, -1, -1);

        says("if i - j is at most 4");
        dueThrown("4", x, 13, DOWN, cellNumber(11, 9));
        dueThrown("5", x, 14, -1, -1);
        dueThrown("4, upwards", tall(6, 8, UP), 9, RIGHT, cellNumber(6, 4));
        dueThrown("5, upwards", tall(6, 8, UP), 10, -1, -1);
    }

    private static void banksAtTheRims() {
        says("its bank, -1 if this is not in the plain");
        dueThrown("in the row 0", tall(6, 7, UP), 13, UP, cellNumber(6, 0));
        dueThrown("above it", tall(6, 8, UP), 14, UP, -1);
        dueThrown("in the row 15", tall(6, 6, DOWN), 12, DOWN, cellNumber(6, 15));
        dueThrown("below it", tall(6, 7, DOWN), 13, DOWN, -1);
        dueThrown("in the column 23", tall(21, 4, UP), 27, RIGHT, cellNumber(23, 5));
        dueThrown("right of it", tall(22, 4, UP), 28, RIGHT, -1);
        MeanderFarm near = tall(3, 4, DOWN);
        near.slip(4, LEFT);
        dueThrown("in the column 0", near, 5, LEFT, cellNumber(0, 10));
        MeanderFarm left = tall(2, 4, DOWN);
        left.slip(3, LEFT);
        dueThrown("left of it", left, 4, LEFT, -1);
    }

    private static void necks() {
        says("j at least i + 3, are a neck, if they are side by side");
        due("i + 3, side by side", oneNeck().dig(6, 9), 26);
        refused(EdgeTest::oneNeck, STATE, "i + 1, side by side", x -> x.dig(6, 7));
        refused(EdgeTest::oneNeck, STATE, "i + 2", x -> x.dig(6, 8));
        refused(EdgeTest::oneNeck, STATE, "i + 4", x -> x.dig(6, 10));
        refused(EdgeTest::oneNeck, STATE, "i + 3, not side by side", x -> x.dig(5, 8));
        refused(EdgeTest::oneNeck, STATE, "i itself", x -> x.dig(6, 6));
        refused(EdgeTest::oneNeck, STATE, "j ahead of i", x -> x.dig(9, 6));

        says("Side by side are cells of which one lies in one of these directions from the other one");
        MeanderFarm rims = tall(22, 1, UP);
        due("the end of the row 7", rims.course(24, 0), 191);
        due("the start of the row 8", rims.course(0, 0), 192);
        refused(() -> tall(22, 1, UP), STATE, "they are not side by side", x -> x.dig(0, 24));
        due("nor a neck", rims.neck(0), 0);
        dueNeck("to the right", oneNeck(), 1, 6, 9, 2);
        MeanderFarm down = tall(12, 3, DOWN);
        down.slip(13, LEFT);
        dueNeck("down", down, 1, 10, 13, 2);
        MeanderFarm up = tall(17, 3, DOWN);
        up.slip(22, RIGHT);
        dueNeck("up", up, 1, 24, 27, 2);
        dueNeck("to the left", neckToTheLeft(), 1, 13, 16, 2);
        due("through that one", neckToTheLeft().dig(13, 16), neckToTheLeft().count(1) - 2);

        says("A break through it takes the cells i + 1 to j - 1 out of the course");
        MeanderFarm first = neckAtFirst();
        due("from the first cell on", first.dig(0, 9), 24);
        dueCourse("the first cell stays", first, 0, 192, 193, 194);
        due("lakes", first.count(2), 8);
        MeanderFarm last = neckAtLast();
        due("up to the last cell", last.dig(22, 31), 24);
        dueCourse("the last cell stays", last, 21, 213, 214, 215);
        due("lakes too", last.count(2), 8);
        MeanderFarm x = oneNeck();
        x.dig(6, 9);
        dueCourse("both cells stay", x, 5, cellNumber(4, 7), cellNumber(5, 7), cellNumber(6, 7), cellNumber(7, 7));
        MeanderFarm high = tall(1, 8, UP);
        high.slip(17, LEFT);
        due("a loop through a corner of the plain", high.dig(0, 19), 24);
        due("the corner is a lake", high.cell(0, 0, 4), 10);
        due("so many lakes", high.count(2), 18);
        MeanderFarm low = tall(22, 7, DOWN);
        low.slip(22, RIGHT);
        due("a loop through the other corner", low.dig(22, 39), 24);
        due("that corner is a lake", low.cell(23, 15, 4), 10);
        due("so many lakes there", low.count(2), 16);
        due("i + 1 is out", x.cell(5, 8, 3), -1);
        due("j - 1 is out", x.cell(6, 8, 3), -1);

        says("they are lakes for 10 years");
        due("at once", x.cell(5, 8, 4), 10);
        due("i is no lake", x.cell(5, 7, 4), 0);
        due("j is no lake", x.cell(6, 7, 4), 0);
        x.pass(9);
        due("behind 9 years", x.cell(5, 8, 4), 1);
        x.pass(1);
        due("behind 10 years", x.cell(5, 8, 4), 0);

        says("(stones do not hinder it)");
        due("stones on all of them", stonyNeck().dig(6, 9), 26);
        MeanderFarm flooded = stonyNeck();
        flooded.setFlow(0, 7);
        flooded.pass(1);
        due("nor in a flood", flooded.count(3), 1);
        due("a lake with stones", flooded.cell(5, 8, 4) * 10 + flooded.cell(5, 8, 2), 91);
    }

    /** The left leg of a bulge downwards turns out to the left, three columns wide, and from there up again. */
    private static MeanderFarm neckToTheLeft() {
        MeanderFarm x = tall(12, 5, DOWN);
        x.slip(15, LEFT);
        x.slip(16, LEFT);
        x.slip(17, LEFT);
        x.slip(16, UP);
        return x;
    }

    private static MeanderFarm stonyNeck() {
        MeanderFarm x = oneNeck();
        for (int column = 5; column <= 6; column++) {
            x.setStones(column, 7, true);
            x.setStones(column, 8, true);
        }
        return x;
    }

    private static void theFlow() {
        says("A table tells the flow of each of 12 years, 1 to 9 (3, at first)");
        MeanderFarm x = plain();
        for (int year = 0; year < 12; year++) {
            due("setFlow(" + year + ", 9)", x.setFlow(year, 9), 3);
        }
        refused(EdgeTest::busy, INDEX, "the year 12", y -> y.setFlow(12, 9));
        refused(EdgeTest::busy, INDEX, "the year -1", y -> y.setFlow(-1, 9));

        says("in the year t it is that with the number t by the remainder of 12");
        MeanderFarm cycle = oneBank();
        setAllFlows(cycle, 1);
        cycle.setFlow(0, 2);
        cycle.setFlow(11, 5);
        cycle.setHardness(6, 6, 9);
        cycle.pass(11);
        due("up to the year 10", cycle.cell(6, 6, 1), 12);
        cycle.pass(1);
        due("the year 11", cycle.cell(6, 6, 1), 17);
        cycle.pass(1);
        due("the year 12", cycle.cell(6, 6, 1), 19);
        cycle.pass(10);
        due("up to the year 22", cycle.cell(6, 6, 1), 29);
        cycle.pass(1);
        due("the year 23", cycle.cell(6, 6, 1), 34);
        cycle.pass(1);
        due("the year 24", cycle.cell(6, 6, 1), 36);
    }

    private static void farms() {
        says("There are at most 6, numbered from 0 in the order in which they were told");
        MeanderFarm x = plain();
        for (int farm = 0; farm < 6; farm++) {
            due("the farm " + farm, x.addFarm(farm, 0, farm + 1, 2), farm);
        }
        for (int farm = 0; farm < 6; farm++) {
            due("farm(" + farm + ", 0)", x.farm(farm, 0), 2 * (farm + 1));
        }
        refused(EdgeTest::sixFarms, STATE, "a seventh", y -> y.addFarm(0, 0, 1, 1));

        says("(they may overlap)");
        MeanderFarm overlap = plain();
        due("the first", overlap.addFarm(4, 4, 2, 2), 0);
        due("the same again", overlap.addFarm(4, 4, 2, 2), 1);
        due("a cell of both", overlap.cell(5, 5, 5), 3);
        due("a cell beyond both", overlap.cell(6, 5, 5), 0);

        says("Its land are all of its cells that are neither in the course nor lakes");
        MeanderFarm land = oneNeck();
        land.addFarm(5, 8, 2, 1);
        land.addFarm(5, 9, 2, 1);
        due("in the course", land.farm(0, 1), 0);
        due("just below it", land.farm(1, 1), 2);
        land.dig(6, 9);
        due("lakes", land.farm(0, 1), 0);
        land.pass(9);
        due("lakes in the last year", land.farm(0, 1), 0);
        land.pass(1);
        due("no lakes any more", land.farm(0, 1), 2);
    }

    // ---- a year

    private static void wearInAYear() {
        says("for each straight cell that is thrown");
        MeanderFarm shared = bankOfTwo();
        dueThrown("to the right", shared, shared.cell(2, 6, 3), RIGHT, cellNumber(3, 6));
        dueThrown("to the left", shared, shared.cell(4, 6, 3), LEFT, cellNumber(3, 6));
        shared.pass(1);
        due("a bank of two thrown cells", shared.cell(3, 6, 1), 6);
        due("the bank of one above it", shared.cell(3, 5, 1), 3);
        due("the bank of one below it", shared.cell(3, 7, 1), 3);

        says("its bank, if it is in the plain");
        MeanderFarm inside = tall(6, 7, UP);
        inside.pass(1);
        due("13 banks, the highest one in the row 0", inside.count(7), 39);
        due("this one", inside.cell(6, 0, 1), 3);
        MeanderFarm outside = tall(6, 8, UP);
        outside.pass(1);
        due("the highest one is above the row 0", outside.count(7), 36);

        says("not in the course");
        MeanderFarm x = highNeck();
        due("the bank of 8", x.course(8, 4), cellNumber(6, 7));
        due("it is in the course", x.cell(6, 7, 3), 11);
        x.pass(1);
        due("no wear", x.cell(6, 7, 1), 0);
        due("a bank that is not", x.cell(4, 5, 1), 3);
        MeanderFarm lake = bankThatIsALake();
        lake.pass(1);
        due("a lake is not in the course", lake.cell(8, 9, 1), 3);
        due("it is one yet", lake.cell(8, 9, 4), 9);

        says("and has no stones");
        MeanderFarm stones = oneBulge();
        stones.setStones(9, 9, true);
        stones.pass(1);
        due("stones", stones.cell(9, 9, 1), 0);
        due("none", stones.cell(8, 9, 1), 3);
        stones.setStones(8, 9, true);
        stones.setStones(9, 9, false);
        stones.pass(1);
        due("stones now", stones.cell(8, 9, 1), 3);
        due("none now", stones.cell(9, 9, 1), 3);

        says("has as much more wear as the flow");
        for (int flow : new int[] {1, 9}) {
            MeanderFarm year = oneBulge();
            year.setFlow(0, flow);
            year.pass(1);
            due("a flow of " + flow, year.cell(6, 6, 1), flow);
            due("5 behind the bend", year.cell(12, 9, 1), 0);
        }
    }

    /** Two bulges, of which the second one has a bulge to the first one: they have the bank (3, 6) in common. */
    private static MeanderFarm bankOfTwo() {
        MeanderFarm x = tall(1, 4, UP);
        int top = x.cell(6, 8, 3);
        for (int row = 0; row < 4; row++) {
            x.slip(top + row, UP);
        }
        x.slip(x.cell(5, 6, 3), LEFT);
        return x;
    }

    /** oneBulge(), where a loop of the river has left lakes below it: so its bank (8, 9) is one. */
    private static MeanderFarm bankThatIsALake() {
        MeanderFarm x = tall(9, 3, DOWN);
        x.slip(15, LEFT);
        x.dig(8, 17);
        x.slip(6, UP);
        return x;
    }

    /** Lets years go by, with flows of 3 and a last one of what is left, till banks have so much more wear. */
    private static int passWorth(MeanderFarm x, int wear) {
        int bulges = 0;
        for (int left = wear; left > 0; left -= 3) {
            x.setFlow(x.count(0) % 12, Math.min(3, left));
            bulges += x.pass(1);
        }
        return bulges;
    }

    private static void bulgeInAYear() {
        says("of which the bank has a wear of at least 10 times its hardness");
        for (int hardness : new int[] {1, 3, 9}) {
            MeanderFarm less = oneBank();
            less.setHardness(6, 6, hardness);
            due("one less than 10 times " + hardness, passWorth(less, 10 * hardness - 1), 0);
            due("it is worn", less.cell(6, 6, 1), 10 * hardness - 1);
            MeanderFarm just = oneBank();
            just.setHardness(6, 6, hardness);
            due("just 10 times " + hardness, passWorth(just, 10 * hardness), 1);
            due("it is in the course", just.cell(6, 6, 3), 8);
        }

        says("and where a bulge to this side can be");
        MeanderFarm beside = oneBank();
        beside.setStones(7, 6, true);
        due("stones beside the bank", beside.pass(11), 0);
        due("it is ripe", beside.cell(6, 6, 1), 33);
        beside.setStones(7, 6, false);
        due("without them", beside.pass(1), 1);
        due("no bulge beyond 150 cells", longCourse(3).pass(60), 0);
        due("just one up to 150 cells", longCourse(2).pass(60), 1);

        says("the one of which the bank has the most wear more than 10 times its hardness");
        MeanderFarm more = twoRipe(14);
        due("14 is 4 more than 10, 33 is 3 more than 30", more.pass(1), 1);
        due("the one with 4 more, though with less wear", more.cell(10, 9, 3), 13);
        due("the other one stays", more.cell(6, 6, 1), 33);
        MeanderFarm less = twoRipe(12);
        due("12 is 2 more than 10", less.pass(1), 1);
        due("the one with 3 more", less.cell(6, 6, 3), 8);
        due("the other one stays too", less.cell(10, 9, 1), 12);
        MeanderFarm alike = twoRipe(13);
        due("13 is 3 more than 10", alike.pass(1), 1);
        due("of both the one with the smaller number", alike.cell(6, 6, 3), 8);

        says("of several the one with the smallest number");
        MeanderFarm several = oneBulge();
        several.pass(9);
        due("27 each: the first of five", several.cell(6, 6, 1) + several.cell(11, 9, 1), 54);
        due("30 each", several.pass(1), 1);
        due("the smallest number", several.cell(6, 6, 3), 8);
        MeanderFarm held = oneBulge();
        held.setStones(6, 6, true);
        due("without the first", held.pass(10), 1);
        due("the next number", held.cell(8, 9, 3) >= 0 ? 1 : 0, 1);
        due("not the last one", held.cell(11, 9, 3), -1);

        says("(One in a year, at most.)");
        due("five are ripe, in one year", oneBulge().pass(10), 1);
        due("in two years", oneBulge().pass(11), 2);
    }

    /** In the next year the banks (6, 6) and (10, 9) come to a wear of 33 and to this one, and no other one is ripe. */
    private static MeanderFarm twoRipe(int wear) {
        MeanderFarm x = oneBulge();
        for (int column = 8; column <= 11; column++) {
            x.setHardness(column, 9, 9);
        }
        x.setStones(5, 6, true);
        x.setStones(10, 9, true);
        passWorth(x, 33 - wear);
        x.setHardness(10, 9, 1);
        x.setStones(10, 9, false);
        x.setStones(9, 9, true);
        passWorth(x, wear - 3);
        x.setStones(5, 6, false);
        x.setStones(9, 9, false);
        return x;
    }

    private static void floodInAYear() {
        says("Flood, if the flow is 7 or more");
        int[] breaks = {0, 0, 0, 0, 0, 0, 0, 1, 1, 1};
        for (int flow = 1; flow <= 9; flow++) {
            MeanderFarm x = oneNeck();
            x.setFlow(0, flow);
            x.pass(1);
            due("a flow of " + flow, x.count(3), breaks[flow]);
        }
        due("a neck that a bulge of the same year makes, 6", newNeck(6).count(3), 0);
        due("it is there", newNeck(6).neck(0), 1);
        due("a neck that a bulge of the same year makes, 7", newNeck(7).count(3), 1);
        due("it is there no more", newNeck(7).neck(0), 0);

        says("as long as there are necks");
        MeanderFarm three = oneNeck();
        three.slip(14, UP);
        three.setFlow(0, 7);
        due("two necks", three.neck(0), 2);
        three.pass(1);
        due("none is left", three.neck(0), 0);
        due("two breaks", three.count(3), 2);
        MeanderFarm none = oneBulge();
        none.setFlow(0, 9);
        none.pass(1);
        due("without any", none.count(3), 0);

        says("it breaks through the one with the greatest difference of j and i");
        MeanderFarm high = highNeck();
        high.setFlow(0, 9);
        due("two necks, one within the other", high.neck(0), 2);
        high.pass(1);
        due("one break is enough", high.count(3), 1);
        due("it takes four cells", high.count(2), 4);

        says("of several the one with the smallest i");
        MeanderFarm alike = twoAlike();
        due("two", alike.neck(0), 2);
        due("dig(13, 16) undoes the other", twoAlike().dig(13, 16), 28);
        alike.setFlow(0, 7);
        alike.pass(1);
        due("one break", alike.count(3), 2);
        due("a lake between 11 and 14", alike.cell(9, 7, 4), 9);
        due("another", alike.cell(10, 7, 4), 9);
        due("none between 13 and 16", alike.cell(10, 8, 4) + alike.cell(11, 8, 4), 0);
    }

    /** In the year 3 the soft bank (12, 7) is taken, and that makes a neck; such is the flow of that year. */
    private static MeanderFarm newNeck(int flow) {
        MeanderFarm x = new MeanderFarm();
        x.slip(10, DOWN);
        x.slip(17, UP);
        x.setHardness(12, 7, 1);
        x.setFlow(3, flow);
        x.pass(4);
        return x;
    }

    private static void lakesInAYear() {
        says("Each lake is one for one year less");
        MeanderFarm x = oneNeck();
        x.dig(6, 9);
        for (int years = 0; years <= 12; years++) {
            due("behind " + years + " years", x.cell(6, 8, 4), Math.max(0, 10 - years));
            due("lakes behind " + years + " years", x.count(2), years < 10 ? 2 : 0);
            x.pass(1);
        }

        says("(also a new one)");
        MeanderFarm flooded = oneNeck();
        flooded.setFlow(0, 7);
        flooded.pass(1);
        due("behind the flood", flooded.cell(6, 8, 4), 9);
        flooded.pass(8);
        due("in its last year", flooded.cell(6, 8, 4), 1);
        flooded.pass(1);
        due("behind it", flooded.cell(6, 8, 4), 0);

        says("The year is 1 greater");
        MeanderFarm years = plain();
        years.pass(1);
        due("1", years.count(0), 1);
        years.pass(100);
        due("101", years.count(0), 101);
    }

    // ---- the promises

    private static void promise1() {
        says("1: Creates a plain with a straight river, without farms, in the year 0");
        int[] counts = {0, 24, 0, 0, 0, 0, 0, 0};
        for (int what = 0; what < 8; what++) {
            due("count(" + what + ")", plain().count(what), counts[what]);
        }
        refused(EdgeTest::plain, INDEX, "farm(0, 0)", x -> x.farm(0, 0));
        due("it stays straight", plain().pass(100), 0);
        due("no other object is changed by one", changedBeside().digest() == plain().digest() ? 1 : 0, 1);
    }

    private static MeanderFarm changedBeside() {
        MeanderFarm x = plain();
        busy();
        return x;
    }

    private static void promises2To4() {
        says("2: IndexOutOfBoundsException if there is no such cell");
        for (int[] at : new int[][] {{0, 0}, {23, 0}, {0, 15}, {23, 15}}) {
            due("setHardness(" + at[0] + ", " + at[1] + ", 5)", plain().setHardness(at[0], at[1], 5), 3);
        }
        for (int[] at : NO_CELLS) {
            String call = "setHardness(" + at[0] + ", " + at[1] + ", 5)";
            refused(EdgeTest::busy, INDEX, call, x -> x.setHardness(at[0], at[1], 5));
        }

        says("2: IllegalArgumentException if hardness is not 1 to 9");
        due("1", plain().setHardness(6, 6, 1), 3);
        due("9", plain().setHardness(6, 6, 9), 3);
        for (int hardness : new int[] {0, 10, -1, LEAST, MOST}) {
            refused(EdgeTest::busy, ARGUMENT, "hardness " + hardness, x -> x.setHardness(6, 6, hardness));
            refused(EdgeTest::busy, INDEX, "nor a cell, hardness " + hardness, x -> x.setHardness(24, 6, hardness));
        }

        says("3: IndexOutOfBoundsException if there is no such cell");
        for (int[] at : new int[][] {{0, 0}, {23, 0}, {0, 15}, {23, 15}}) {
            due("setStones(" + at[0] + ", " + at[1] + ", true)", plain().setStones(at[0], at[1], true), 1);
        }
        for (int[] at : NO_CELLS) {
            String call = "setStones(" + at[0] + ", " + at[1] + ", ";
            refused(EdgeTest::busy, INDEX, call + "true)", x -> x.setStones(at[0], at[1], true));
            refused(EdgeTest::busy, INDEX, call + "false)", x -> x.setStones(at[0], at[1], false));
        }

        says("3: Returns how many cells have stones then");
        MeanderFarm x = plain();
        due("none to take away", x.setStones(0, 0, false), 0);
        for (int cell = 0; cell < 384; cell++) {
            due("up to the cell " + cell, x.setStones(cell % 24, cell / 24, true), cell + 1);
        }
        due("all have some, once more", x.setStones(23, 15, true), 384);
        due("one less", x.setStones(23, 15, false), 383);
        due("that again", x.setStones(23, 15, false), 383);

        says("4: IndexOutOfBoundsException if year is not 0 to 11");
        due("0", plain().setFlow(0, 5), 3);
        due("11", plain().setFlow(11, 5), 3);
        for (int year : new int[] {-1, 12, LEAST, MOST}) {
            refused(EdgeTest::busy, INDEX, "setFlow(" + year + ", 5)", y -> y.setFlow(year, 5));
            refused(EdgeTest::busy, INDEX, "setFlow(" + year + ", 0)", y -> y.setFlow(year, 0));
            refused(EdgeTest::busy, INDEX, "setFlow(" + year + ", 10)", y -> y.setFlow(year, 10));
        }

        says("4: IllegalArgumentException if flow is not 1 to 9");
        MeanderFarm flow = plain();
        due("1", flow.setFlow(5, 1), 3);
        due("9", flow.setFlow(5, 9), 1);
        due("the flow before", flow.setFlow(5, 3), 9);
        for (int wrongFlow : new int[] {0, 10, -1, LEAST, MOST}) {
            refused(EdgeTest::busy, ARGUMENT, "setFlow(5, " + wrongFlow + ")", y -> y.setFlow(5, wrongFlow));
        }
    }

    private static void promise5() {
        says("5: IndexOutOfBoundsException if there is no such cell");
        due("cell(23, 15, 0)", plain().cell(23, 15, 0), 3);
        for (int[] at : NO_CELLS) {
            for (int what : new int[] {0, 5, 6}) {
                String call = "cell(" + at[0] + ", " + at[1] + ", " + what + ")";
                refused(EdgeTest::busy, INDEX, call, x -> x.cell(at[0], at[1], what));
            }
        }

        says("5: or what is not 0 to 5");
        due("0", busy().cell(6, 6, 0), 5);
        due("5", busy().cell(6, 6, 5), 3);
        for (int what : new int[] {-1, 6, LEAST, MOST}) {
            refused(EdgeTest::busy, INDEX, "cell(6, 6, " + what + ")", x -> x.cell(6, 6, what));
        }

        says("5: 2 1 if it has stones, else 0");
        due("stones", busy().cell(20, 8, 2), 1);
        due("none", busy().cell(21, 8, 2), 0);

        says("5: 3 its number in the course, -1 if it is not in it");
        due("the first one", plain().cell(0, 8, 3), 0);
        due("the last one", plain().cell(23, 8, 3), 23);
        due("the last one of a longer course", oneBulge().cell(23, 8, 3), 25);
        due("above the course", plain().cell(0, 7, 3), -1);
        due("below the course", plain().cell(23, 9, 3), -1);

        says("5: 4 for how many years it is a lake yet, 0 for none");
        due("a lake", busy().cell(5, 8, 4), 10);
        due("in the course", busy().cell(5, 7, 4), 0);
        due("land", busy().cell(5, 9, 4), 0);

        says("5: 5 the farms of whose rectangles it is (as the sum of the powers 2^k)");
        due("none", plain().cell(0, 0, 5), 0);
        MeanderFarm all = plain();
        for (int farm = 0; farm < 6; farm++) {
            due("farms 0 to " + farm + ": the number", all.addFarm(3, 3, 4, 4), farm);
            due("farms 0 to " + farm + ": their sum", all.cell(4, 4, 5), (1 << farm + 1) - 1);
        }
        for (int[] at : new int[][] {{3, 3}, {6, 3}, {3, 6}, {6, 6}}) {
            due("its corner " + at[0] + ", " + at[1], all.cell(at[0], at[1], 5), 63);
        }
        for (int[] at : new int[][] {{2, 3}, {7, 3}, {3, 2}, {6, 7}, {7, 7}}) {
            due("beyond its corner, " + at[0] + ", " + at[1], all.cell(at[0], at[1], 5), 0);
        }
    }

    private static void promise6() {
        says("6: IndexOutOfBoundsException if there is no such cell of the course");
        for (int what = 0; what < 6; what++) {
            int told = what;
            for (int index : new int[] {-1, 24, LEAST, MOST}) {
                refused(EdgeTest::plain, INDEX, "course(" + index + ", " + what + ")", x -> x.course(index, told));
            }
        }
        due("the last one", plain().course(23, 0), 215);
        due("the last one behind a bulge", oneBulge().course(25, 0), 215);
        refused(EdgeTest::oneBulge, INDEX, "one more behind a bulge", x -> x.course(26, 0));
        due("the last one ahead of a break", oneNeck().course(27, 0), 215);
        MeanderFarm broken = oneNeck();
        broken.dig(6, 9);
        due("the last one behind it", broken.course(25, 0), 215);
        refused(() -> dug(oneNeck()), INDEX, "one more behind it", x -> x.course(26, 0));
        refused(() -> dug(oneNeck()), INDEX, "the last one ahead of it", x -> x.course(27, 0));
        due("the last one of the most", longCourse(3).course(149, 0), 215);
        refused(() -> longCourse(3), INDEX, "one more than the most", x -> x.course(150, 0));

        says("6: or what is not 0 to 4");
        due("0", plain().course(5, 0), 197);
        due("4", plain().course(5, 4), -1);
        for (int what : new int[] {-1, 5, LEAST, MOST}) {
            refused(EdgeTest::busy, INDEX, "course(5, " + what + ")", x -> x.course(5, what));
        }

        says("6: 3 the side to which it is thrown, -1 if it is not, 4 its bank (the cell), -1 if it is not thrown");
        dueThrown("thrown upwards", oneBulge(), 7, UP, cellNumber(6, 6));
        dueThrown("not thrown", oneBulge(), 6, -1, -1);
        dueThrown("its bank is in the course", highNeck(), 8, RIGHT, cellNumber(6, 7));
    }

    private static MeanderFarm dug(MeanderFarm x) {
        x.dig(6, 9);
        return x;
    }

    private static void promise7() {
        says("7: IndexOutOfBoundsException if there is no such cell of the course");
        int[] sides = {UP, LEFT, -1, 4};
        for (int side : sides) {
            for (int index : new int[] {-1, LEAST, MOST}) {
                refused(EdgeTest::busy, INDEX, "slip(" + index + ", " + side + ")", x -> x.slip(index, side));
            }
            refused(EdgeTest::busy, INDEX, "slip of the last one and one, " + side, x -> x.slip(x.count(1), side));
            refused(EdgeTest::plain, INDEX, "slip(24, " + side + ")", x -> x.slip(24, side));
        }
        due("slip(1, 0)", plain().slip(1, UP), 26);
        due("slip(22, 0)", plain().slip(22, UP), 26);

        says("7: IllegalArgumentException if side is not 0 to 3");
        due("0", plain().slip(5, 0), 26);
        due("3", tall(6, 4, UP).slip(7, 3), 34);
        for (int side : new int[] {-1, 4, LEAST, MOST}) {
            refused(EdgeTest::busy, ARGUMENT, "slip(2, " + side + ")", x -> x.slip(2, side));
            refused(EdgeTest::busy, ARGUMENT, "not straight either: slip(0, " + side + ")", x -> x.slip(0, side));
            refused(() -> longCourse(3), ARGUMENT, "nor at 150 cells: slip(5, " + side + ")", x -> x.slip(5, side));
        }

        says("7: IllegalStateException if the cell is not straight");
        refused(EdgeTest::busy, STATE, "the first one", x -> x.slip(0, UP));
        refused(EdgeTest::busy, STATE, "a bend", x -> x.slip(4, UP));
        due("a straight one", busy().slip(2, DOWN), busy().count(1) + 2);

        says("7: or a bulge to this side cannot be");
        refused(EdgeTest::busy, STATE, "along", x -> x.slip(2, RIGHT));
        refused(EdgeTest::busy, STATE, "into the course", x -> x.slip(2, UP));
        due("to the other side", busy().slip(2, DOWN), 30);

        says("7: Returns how many cells the course has then");
        due("one bulge", plain().slip(5, UP), 26);
        due("behind a break", dug(oneNeck()).slip(7, DOWN), 28);
        due("up to the most", longCourse(2).slip(longCourse(2).cell(14, 4, 3), RIGHT), 150);
    }

    private static void promise8() {
        says("8: IndexOutOfBoundsException if there is no such cell of the course");
        for (int wrongIndex : new int[] {-1, 28, LEAST, MOST}) {
            refused(EdgeTest::oneNeck, INDEX, "dig(" + wrongIndex + ", 9)", x -> x.dig(wrongIndex, 9));
            refused(EdgeTest::oneNeck, INDEX, "dig(6, " + wrongIndex + ")", x -> x.dig(6, wrongIndex));
            refused(EdgeTest::oneNeck, INDEX, "dig twice " + wrongIndex, x -> x.dig(wrongIndex, wrongIndex));
        }
        refused(EdgeTest::oneNeck, INDEX, "their difference wraps around", x -> x.dig(MOST, LEAST));
        refused(EdgeTest::oneNeck, STATE, "the first and the last one", x -> x.dig(0, 27));
        refused(EdgeTest::oneNeck, STATE, "the last and the first one", x -> x.dig(27, 0));
        due("the first one, where it is a neck", neckAtFirst().dig(0, 9), 24);
        due("the last one, where it is a neck", neckAtLast().dig(22, 31), 24);

        says("8: IllegalStateException if both are no neck");
        due("a neck", highNeck().dig(7, 12), 28);
        due("another", highNeck().dig(8, 11), 30);
        for (int[] pair : new int[][] {{7, 11}, {8, 12}, {6, 13}, {9, 10}, {8, 9}, {12, 7}, {11, 8}, {7, 7}}) {
            refused(EdgeTest::highNeck, STATE, "dig(" + pair[0] + ", " + pair[1] + ")", x -> x.dig(pair[0], pair[1]));
        }
        refused(() -> dug(oneNeck()), STATE, "it was dug through", x -> x.dig(6, 9));
        refused(EdgeTest::plain, STATE, "a straight river", x -> x.dig(3, 6));

        says("8: Returns how many cells the course has then");
        due("two less", oneNeck().dig(6, 9), 26);
        due("four less", highNeck().dig(7, 12), 28);
        due("the least that a break can leave", neckAtFirst().dig(0, 9), 24);
    }

    private static void dueNeck(String call, MeanderFarm x, int... want) {
        for (int what = 0; what < 4; what++) {
            due(call + ", neck(" + what + ")", x.neck(what), want[what]);
        }
    }

    private static void promise9() {
        says("9: IndexOutOfBoundsException if what is not 0 to 3");
        due("0", oneNeck().neck(0), 1);
        due("3", oneNeck().neck(3), 2);
        for (int what : new int[] {-1, 4, LEAST, MOST}) {
            refused(EdgeTest::busy, INDEX, "neck(" + what + ")", x -> x.neck(what));
        }

        says("9: the i and the j of the one through which a flood would break first, -1 without any");
        dueNeck("none", plain(), 0, -1, -1, 0);
        dueNeck("one", oneNeck(), 1, 6, 9, 2);
        dueNeck("none any more", dug(oneNeck()), 0, -1, -1, 0);
        dueNeck("the greater one", highNeck(), 2, 7, 12, 4);
        dueNeck("from the first cell on", neckAtFirst(), 4, 0, 9, 8);
        dueNeck("up to the last cell", neckAtLast(), 4, 22, 31, 8);
        dueNeck("of two alike the smaller i", twoAlike(), 2, 11, 14, 2);

        says("9: the cells by which the course would be shorter behind a flood now");
        due("for all a flow of 1", flowOfOne().neck(3), 2);
        due("nothing", plain().neck(3), 0);
        changesNothing(EdgeTest::busy, "neck(3)", x -> x.neck(3));
        changesNothing(EdgeTest::twoAlike, "neck(3)", x -> x.neck(3));
    }

    private static MeanderFarm flowOfOne() {
        MeanderFarm x = oneNeck();
        setAllFlows(x, 1);
        return x;
    }

    private static void promise10() {
        says("10: IllegalArgumentException if wide or deep is less than 1");
        due("1 and 1", plain().addFarm(5, 5, 1, 1), 0);
        for (int size : new int[] {0, -1, LEAST}) {
            refused(EdgeTest::busy, ARGUMENT, "wide " + size, x -> x.addFarm(5, 5, size, 1));
            refused(EdgeTest::busy, ARGUMENT, "deep " + size, x -> x.addFarm(5, 5, 1, size));
            refused(EdgeTest::sixFarms, ARGUMENT, "wide " + size + ", with 6", x -> x.addFarm(5, 5, size, 1));
        }

        says("10: or it is not all in the plain");
        for (int[] at : new int[][] {{0, 0, 24, 16}, {23, 15, 1, 1}, {23, 0, 1, 16}, {0, 15, 24, 1}, {5, 7, 19, 9}}) {
            MeanderFarm x = plain();
            due("as far as its rims", x.addFarm(at[0], at[1], at[2], at[3]), 0);
            due("all its cells", x.farm(0, 0), at[2] * at[3]);
        }
        for (int[] at : new int[][] {{-1, 0, 1, 1}, {24, 0, 1, 1}, {0, -1, 1, 1}, {0, 16, 1, 1}, {0, 0, 25, 1},
            {0, 0, 1, 17}, {1, 0, 24, 1}, {0, 1, 1, 16}, {5, 7, 20, 9}, {5, 7, 19, 10}, {-1, 0, 2, 1}, {0, -1, 1, 2},
            {23, 0, 2, 1}, {0, 15, 1, 2}, {5, 0, MOST, 1}, {0, 5, 1, MOST}, {MOST, 0, 1, 1}, {0, MOST, 1, 1},
            {LEAST, 0, 1, 1}, {0, LEAST, 1, 1}, {MOST, MOST, MOST, MOST}, {LEAST, LEAST, LEAST, LEAST}}) {
            String call = "addFarm(" + at[0] + ", " + at[1] + ", " + at[2] + ", " + at[3] + ")";
            refused(EdgeTest::busy, ARGUMENT, call, x -> x.addFarm(at[0], at[1], at[2], at[3]));
            refused(EdgeTest::sixFarms, ARGUMENT, call + " with 6", x -> x.addFarm(at[0], at[1], at[2], at[3]));
        }

        says("10: IllegalStateException if there are 6");
        MeanderFarm five = busy();
        five.addFarm(0, 0, 1, 1);
        five.addFarm(0, 0, 1, 1);
        five.addFarm(0, 0, 1, 1);
        due("there are 5", five.count(4), 5);
        due("the sixth", five.addFarm(23, 15, 1, 1), 5);
        refused(EdgeTest::sixFarms, STATE, "a seventh", x -> x.addFarm(23, 15, 1, 1));
        refused(EdgeTest::sixFarms, STATE, "a seventh, as great as the plain", x -> x.addFarm(0, 0, 24, 16));
    }

    private static void promise11() {
        says("11: IndexOutOfBoundsException if there is no such farm");
        due("the last one of two", busy().farm(1, 0), 384);
        due("the last one of six", sixFarms().farm(5, 0), 9);
        for (int what : new int[] {0, 4, 5}) {
            refused(EdgeTest::plain, INDEX, "farm(0, " + what + ") of none", x -> x.farm(0, what));
            refused(EdgeTest::busy, INDEX, "farm(2, " + what + ") of two", x -> x.farm(2, what));
            refused(EdgeTest::sixFarms, INDEX, "farm(6, " + what + ") of six", x -> x.farm(6, what));
            refused(EdgeTest::busy, INDEX, "farm(-1, " + what + ")", x -> x.farm(-1, what));
            refused(EdgeTest::busy, INDEX, "farm(" + LEAST + ", " + what + ")", x -> x.farm(LEAST, what));
            refused(EdgeTest::busy, INDEX, "farm(" + MOST + ", " + what + ")", x -> x.farm(MOST, what));
        }

        says("11: or what is not 0 to 4");
        due("0", busy().farm(0, 0), 24);
        due("4", busy().farm(1, 4), 1);
        for (int what : new int[] {-1, 5, LEAST, MOST}) {
            refused(EdgeTest::busy, INDEX, "farm(0, " + what + ")", x -> x.farm(0, what));
        }

        says("11: its cells, its land, its cells in the course, its cells that are lakes, its cells with stones");
        int[] whole = {384, 384 - 28 - 2, 28, 2, 1};
        int[] part = {24, 14, 8, 2, 0};
        for (int what = 0; what < 5; what++) {
            due("the whole plain, farm(1, " + what + ")", busy().farm(1, what), whole[what]);
            due("a part of it, farm(0, " + what + ")", busy().farm(0, what), part[what]);
        }
    }

    private static void promise12() {
        says("12: IllegalArgumentException if years is not 1 to 100");
        MeanderFarm x = oneBulge();
        due("1", x.pass(1), 0);
        due("a year", x.count(0), 1);
        x.pass(100);
        due("100", x.count(0), 101);
        for (int years : new int[] {0, 101, -1, LEAST, MOST}) {
            refused(EdgeTest::busy, ARGUMENT, "pass(" + years + ")", y -> y.pass(years));
        }

        says("12: Returns how many bulges there were in them");
        due("none, up to the tenth year", oneBulge().pass(9), 0);
        due("one in the tenth", oneBulge().pass(10), 1);
        MeanderFarm later = oneBulge();
        later.pass(10);
        due("those of these years alone", later.pass(1), 1);
        MeanderFarm slip = oneBulge();
        slip.slip(11, DOWN);
        due("a landslip is none of them", slip.pass(1), 0);
    }

    private static void promise13() {
        says("13: IndexOutOfBoundsException if what is not 0 to 7");
        due("0", busy().count(0), 2);
        due("7, all wear", busy().count(7) > 0 ? 1 : 0, 1);
        for (int what : new int[] {-1, 8, LEAST, MOST}) {
            refused(EdgeTest::busy, INDEX, "count(" + what + ")", x -> x.count(what));
        }

        says("13: 3 breaks through necks in all (by floods and digging)");
        MeanderFarm x = oneNeck();
        x.slip(14, UP);
        due("none", x.count(3), 0);
        x.dig(6, 9);
        due("by digging", x.count(3), 1);
        x.setFlow(0, 7);
        x.pass(1);
        due("by a flood", x.count(3), 2);
        x.pass(5);
        due("and no more", x.count(3), 2);

        says("13: 6 bends of the course (cells, but the first and the last one)");
        due("none", plain().count(6), 0);
        due("a bulge", oneBulge().count(6), 4);
        due("the first one goes down", tall(1, 1, DOWN).count(6), 3);
        due("the way to the last one goes up", tall(22, 1, DOWN).count(6), 3);

        says("13: 7 all wear");
        due("none", oneBulge().count(7), 0);
        MeanderFarm worn = oneBulge();
        worn.pass(1);
        due("five banks", worn.count(7), 15);
        MeanderFarm corner = tall(1, 8, UP);
        corner.pass(1);
        MeanderFarm same = tall(1, 8, UP);
        same.pass(1);
        int sum = 0;
        for (int cell = 0; cell < 384; cell++) {
            sum += same.cell(cell % 24, cell / 24, 1);
        }
        due("of all cells", corner.count(7), sum);
    }

    private static void promise14() {
        says("14: IllegalArgumentException if years is not 1 to 100");
        due("1", busy().foresee(1, 0), 28);
        due("100, as pass(100)", busy().foresee(100, 2), busy().pass(100));
        for (int years : new int[] {0, 101, -1, LEAST, MOST}) {
            refused(EdgeTest::busy, ARGUMENT, "foresee(" + years + ", 0)", x -> x.foresee(years, 0));
            refused(EdgeTest::busy, ARGUMENT, "foresee(" + years + ", 3)", x -> x.foresee(years, 3));
            refused(EdgeTest::busy, ARGUMENT, "foresee(" + years + ", -1)", x -> x.foresee(years, -1));
        }

        says("14: IndexOutOfBoundsException if what is not 0 to 2");
        due("0", oneBulge().foresee(10, 0), 28);
        due("2", oneBulge().foresee(10, 2), 1);
        for (int what : new int[] {-1, 3, LEAST, MOST}) {
            refused(EdgeTest::busy, INDEX, "foresee(1, " + what + ")", x -> x.foresee(1, what));
            refused(EdgeTest::busy, INDEX, "foresee(100, " + what + ")", x -> x.foresee(100, what));
        }

        says("14: the breaks in these years, the bulges in them");
        due("none, up to the year of the flood", busy().foresee(3, 1), 0);
        due("in that year", busy().foresee(4, 1), 1);
        due("not the one that was dug", busy().count(3), 1);
        due("no bulge in 9 years", oneBulge().foresee(9, 2), 0);
        due("one in 10", oneBulge().foresee(10, 2), 1);

        says("14: if nothing is done (nothing is changed)");
        for (int what = 0; what < 3; what++) {
            int told = what;
            changesNothing(EdgeTest::busy, "foresee(1, " + what + ")", x -> x.foresee(1, told));
            changesNothing(EdgeTest::busy, "foresee(100, " + what + ")", x -> x.foresee(100, told));
        }
    }

    /** The land (6, 6) is lost when its wear is 90: behind 60 years, if the last flow is 2, behind 61, if it is 1. */
    private static MeanderFarm slowLoss(int lastFlow) {
        MeanderFarm x = oneBank();
        x.addFarm(6, 6, 1, 1);
        x.setHardness(6, 6, 9);
        setAllFlows(x, 1);
        x.setFlow(0, 6);
        x.setFlow(11, lastFlow);
        return x;
    }

    /** A bulge of the tenth year takes (5, 6) to (7, 6), and gives (6, 7) back. */
    private static MeanderFarm bankFarm(int x, int y, int wide, int deep) {
        MeanderFarm farm = oneBank();
        farm.addFarm(x, y, wide, deep);
        return farm;
    }

    private static void promise15() {
        says("15: IndexOutOfBoundsException if there is no such farm");
        MeanderFarm two = bankFarm(0, 0, 3, 3);
        two.addFarm(6, 6, 1, 1);
        due("the last one of two", two.loses(1), 10);
        refused(EdgeTest::plain, INDEX, "loses(0) of none", x -> x.loses(0));
        refused(EdgeTest::busy, INDEX, "loses(2) of two", x -> x.loses(2));
        refused(EdgeTest::sixFarms, INDEX, "loses(6) of six", x -> x.loses(6));
        for (int farm : new int[] {-1, LEAST, MOST}) {
            refused(EdgeTest::busy, INDEX, "loses(" + farm + ")", x -> x.loses(farm));
        }

        says("15: behind how many years, at most 60");
        due("60", slowLoss(2).loses(0), 60);
        due("61", slowLoss(1).loses(0), -1);
        due("behind 60 years it is there", passed(slowLoss(1), 60).farm(0, 1), 1);
        due("behind 61 years it is not", passed(slowLoss(1), 61).farm(0, 1), 0);
        due("a year later that is 60", passed(slowLoss(1), 1).loses(0), 60);
        MeanderFarm next = oneBank();
        next.addFarm(6, 6, 1, 1);
        next.pass(9);
        due("1", next.loses(0), 1);
        MeanderFarm nearer = slowLoss(2);
        nearer.pass(1);
        due("59", nearer.loses(0), 59);

        says("15: its land is less than it is now, for the first time; -1 if it is not");
        due("one cell less", bankFarm(6, 6, 1, 1).loses(0), 10);
        due("one cell for another", bankFarm(6, 6, 1, 2).loses(0) == 10 ? 1 : 0, 0);
        due("two cells for one", bankFarm(5, 6, 2, 2).loses(0), 10);
        due("no land", bankFarm(0, 8, 1, 1).loses(0), -1);
        due("far away", bankFarm(0, 0, 3, 3).loses(0), -1);
        dueLosses(20);

        says("15: (nothing is changed)");
        changesNothing(EdgeTest::busy, "loses(0)", x -> x.loses(0));
        changesNothing(() -> slowLoss(1), "loses(0)", x -> x.loses(0));
    }

    /** Compares with the land of another object, year by year. */
    private static void dueLosses(int farms) {
        for (int k = 0; k < farms; k++) {
            int column = 3 + k % 7;
            int row = 4 + k % 5;
            MeanderFarm x = oneBulge();
            x.addFarm(column, row, 2 + k % 3, 2);
            int want = -1;
            int land = x.farm(0, 1);
            for (int years = 1; years <= 60 && want < 0; years++) {
                x.pass(1);
                want = x.farm(0, 1) < land ? years : -1;
            }
            MeanderFarm same = oneBulge();
            same.addFarm(column, row, 2 + k % 3, 2);
            due("a farm at " + column + ", " + row, same.loses(0), want);
        }
    }

    /** oneBulge() behind so many years, with a farm. */
    private static MeanderFarm wornFarm(int years, int x, int y, int wide, int deep) {
        MeanderFarm farm = oneBulge();
        farm.addFarm(x, y, wide, deep);
        if (years > 0) {
            farm.pass(years);
        }
        return farm;
    }

    private static void promise16() {
        says("16: IndexOutOfBoundsException if there is no such farm");
        due("the last one of six", sixFarms().advise(5, 1), -1);
        for (int years : new int[] {1, 30, 0, 31}) {
            refused(EdgeTest::plain, INDEX, "advise(0, " + years + ") of none", x -> x.advise(0, years));
            refused(EdgeTest::busy, INDEX, "advise(2, " + years + ") of two", x -> x.advise(2, years));
            refused(EdgeTest::sixFarms, INDEX, "advise(6, " + years + ") of six", x -> x.advise(6, years));
            refused(EdgeTest::busy, INDEX, "advise(-1, " + years + ")", x -> x.advise(-1, years));
            refused(EdgeTest::busy, INDEX, "advise(" + MOST + ", " + years + ")", x -> x.advise(MOST, years));
        }

        says("16: IllegalArgumentException if years is not 1 to 30");
        MeanderFarm x = slowLoss(2);
        x.pass(30);
        due("30, and the land is lost then", x.advise(0, 30), cellNumber(6, 6));
        due("29, and it is not yet", x.advise(0, 29), -1);
        x.pass(29);
        due("1, and it is lost then", x.advise(0, 1), cellNumber(6, 6));
        for (int years : new int[] {0, 31, -1, LEAST, MOST}) {
            refused(EdgeTest::busy, ARGUMENT, "advise(0, " + years + ")", y -> y.advise(0, years));
            refused(EdgeTest::busy, ARGUMENT, "advise(1, " + years + ")", y -> y.advise(1, years));
        }

        says("16: of all that have wear and no stones");
        due("no wear yet", wornFarm(0, 6, 6, 1, 1).advise(0, 30), -1);
        MeanderFarm little = wornFarm(0, 6, 6, 1, 1);
        little.setFlow(0, 1);
        little.pass(1);
        due("a wear of 1", little.advise(0, 10), cellNumber(6, 6));
        MeanderFarm stones = wornFarm(1, 6, 6, 1, 1);
        stones.setStones(6, 6, true);
        due("stones already", stones.advise(0, 9), -1);
        due("beside the wear, no wear", wornFarm(1, 5, 6, 1, 1).advise(0, 9), cellNumber(6, 6));

        says("16: the one with which a farm has the most land behind so many years");
        due("(9, 9) keeps two cells, (8, 9) one", wornFarm(1, 8, 9, 2, 1).advise(0, 10), cellNumber(9, 9));
        due("nothing is lost yet", wornFarm(1, 8, 9, 2, 1).advise(0, 9), -1);

        says("16: of several the one with the smallest number");
        due("(8, 9) and (9, 9) keep it", wornFarm(1, 7, 9, 1, 1).advise(0, 10), cellNumber(8, 9));
        MeanderFarm second = wornFarm(1, 7, 9, 1, 1);
        second.setHardness(8, 9, 9);
        due("(9, 9) takes other cells", second.advise(0, 10), -1);

        says("16: but none, if this is not more than without");
        due("one cell for another", wornFarm(1, 6, 6, 1, 2).advise(0, 9), -1);
        due("two cells more", wornFarm(1, 5, 6, 3, 2).advise(0, 9), cellNumber(6, 6));
        due("far away", wornFarm(1, 0, 0, 3, 3).advise(0, 30), -1);

        says("16: (nothing is changed)");
        changesNothing(EdgeTest::busy, "advise(0, 30)", y -> y.advise(0, 30));
        changesNothing(() -> wornFarm(1, 8, 9, 2, 1), "advise(0, 10)", y -> y.advise(0, 10));
        changesNothing(() -> wornFarm(1, 8, 9, 2, 1), "advise(0, 1)", y -> y.advise(0, 1));
    }

    private static void promise17() {
        says("17: Returns the cells of the course, divided by 24");
        due("the least", plain().winding(), 1.0);
        due("it is not cut", oneBulge().winding(), 26 / 24.0);
        due("the most", longCourse(3).winding(), 6.25);
        due("behind a break", neckFirstDug().winding(), 1.0);
    }

    private static MeanderFarm neckFirstDug() {
        MeanderFarm x = neckAtFirst();
        x.dig(0, 9);
        return x;
    }

    // ---- the checksum

    private static List<Integer> numbersOfDigest(Recipe recipe) {
        List<Integer> all = new ArrayList<>();
        MeanderFarm x = recipe.make();
        for (int what = 0; what < 8; what++) {
            all.add(x.count(what));
        }
        MeanderFarm flows = recipe.make();
        for (int year = 0; year < 12; year++) {
            all.add(flows.setFlow(year, 1));
        }
        for (int index = 0; index < x.count(1); index++) {
            all.add(x.course(index, 0));
        }
        for (int half = 0; half < 384; half += 96) {
            MeanderFarm quarter = recipe.make();
            for (int cell = half; cell < half + 96; cell++) {
                for (int what : new int[] {0, 1, 2, 4}) {
                    all.add(quarter.cell(cell % 24, cell / 24, what));
                }
            }
        }
        for (int farm = 0; farm < x.count(4); farm++) {
            for (int what = 0; what < 5; what++) {
                all.add(x.farm(farm, what));
            }
        }
        return all;
    }

    /** The checksum in whole numbers without an end, of which 64 bits are kept last of all. */
    private static BigInteger wholeChecksum(List<Integer> numbers) {
        BigInteger d = BigInteger.valueOf(599);
        for (int x : numbers) {
            d = d.multiply(BigInteger.valueOf(31)).add(BigInteger.valueOf(x));
        }
        return d;
    }

    private static void dueDigest(String call, Recipe recipe, int numbers) {
        List<Integer> all = numbersOfDigest(recipe);
        due(call + ": its numbers", all.size(), numbers);
        due(call, recipe.make().digest() == wholeChecksum(all).longValue() ? 1 : 0, 1);
    }

    private static void promise18() {
        says("18: which wraps around as a 64-bit integer");
        BigInteger whole = wholeChecksum(numbersOfDigest(EdgeTest::plain));
        due("it has more than 64 bits", whole.bitLength() > 64 ? 1 : 0, 1);
        due("64 of them are kept", plain().digest() == whole.longValue() ? 1 : 0, 1);

        says("18: the cells of the course, from 0");
        int others = 8 + 12 + 4 * 384;
        dueDigest("24 of them", EdgeTest::plain, others + 24);
        dueDigest("150 of them", () -> longCourse(3), others + 150);

        says("18: for each farm what farm() tells, in its order");
        dueDigest("none", EdgeTest::oneNeck, others + 28);
        dueDigest("two", EdgeTest::busy, others + 28 + 10);
        dueDigest("six", EdgeTest::sixFarms, others + 28 + 30);

        says("18: 1 if it has stones, else 0, and for how many years it is a lake yet");
        dueDigest("a lake with stones, in its first year", EdgeTest::stonyLake, others + 26);
        dueDigest("in its last year", () -> passed(stonyLake(), 9), others + 26);
        dueDigest("behind it", () -> passed(stonyLake(), 10), others + 28);
        changesNothing(EdgeTest::busy, "digest()", x -> x.digest());
    }

    private static MeanderFarm stonyLake() {
        MeanderFarm x = stonyNeck();
        x.dig(6, 9);
        return x;
    }

    private static MeanderFarm passed(MeanderFarm x, int years) {
        x.pass(years);
        return x;
    }
}
