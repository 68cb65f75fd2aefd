import java.util.ArrayList;
import java.util.List;

/** Each promise of the document by hand: ordinary inputs, the edges that it names, and wrong inputs. */
public final class PromiseTest {
    private static final Class<?> INDEX = IndexOutOfBoundsException.class;
    private static final Class<?> ARGUMENT = IllegalArgumentException.class;
    private static final Class<?> STATE = IllegalStateException.class;
    private static final int LEAST = Integer.MIN_VALUE;
    private static final int MOST = Integer.MAX_VALUE;
    private static int wrong = 0;

    private interface Call {
        double make();
    }

    public static void main(String[] args) {
        promise1();
        promise2();
        promise3();
        promise4();
        promise5();
        promise6();
        promise6Thrown();
        promise7();
        promise7Sideways();
        promise7LakesAndWear();
        promise7Stones();
        promise7MostCells();
        promise8();
        promise9();
        promise10();
        promise11();
        promise12Wear();
        promise12Bulge();
        promise12BulgeOfSeveral();
        promise12Flood();
        promise12Lakes();
        promise13();
        promise14();
        promise15();
        promise16();
        promise17();
        promise18();
        System.out.println(wrong == 0 ? "all promises hold" : wrong + " answers are not as due");
        if (wrong != 0) {
            System.exit(1);
        }
    }

    private static void due(String what, double got, double want) {
        if (got != want) {
            wrong++;
            System.out.println(what + " answered " + got + ", due is " + want);
        }
    }

    /** Also: that nothing has changed behind the exception. */
    private static void dueThrow(String what, MeanderFarm x, Class<?> want, Call call) {
        long before = x.digest();
        String got = "nothing";
        try {
            call.make();
        } catch (RuntimeException e) {
            got = e.getClass().getName();
        }
        if (!got.equals(want.getName())) {
            wrong++;
            System.out.println(what + " throws " + got + ", due is " + want.getName());
        }
        if (x.digest() != before) {
            wrong++;
            System.out.println(what + " changed something");
        }
    }

    /** The course 0..5 in the row 8, 6..8 at (5, 7), (6, 7), (7, 7), from 9 at (7, 8) on in the row 8. */
    private static MeanderFarm oneBulge() {
        MeanderFarm x = new MeanderFarm();
        x.slip(6, 0);
        return x;
    }

    /** Two bulges upwards side by side, from the columns 4 and 7, whose cells 6 and 9 are a neck. */
    private static MeanderFarm oneNeck() {
        MeanderFarm x = new MeanderFarm();
        x.slip(4, 0);
        x.slip(9, 0);
        return x;
    }

    /** As oneNeck(), but two rows high: the cells 7 and 12 are a neck, and 8 and 11. */
    private static MeanderFarm highNeck() {
        MeanderFarm x = oneNeck();
        x.slip(5, 0);
        x.slip(12, 0);
        return x;
    }

    private static void setAllFlows(MeanderFarm x, int flow) {
        for (int year = 0; year < 12; year++) {
            x.setFlow(year, flow);
        }
    }

    /** Lays stones on the banks of oneBulge() but the one above it. */
    private static void holdLowerBanks(MeanderFarm x) {
        for (int column = 8; column <= 11; column++) {
            x.setStones(column, 9, true);
        }
    }

    private static void promise1() {
        MeanderFarm x = new MeanderFarm();
        int[] counts = {0, 24, 0, 0, 0, 0, 0, 0};
        for (int what = 0; what < 8; what++) {
            due("1: count " + what, x.count(what), counts[what]);
        }
        int[] cell = {3, 0, 0, -1, 0, 0};
        for (int what = 0; what < 6; what++) {
            due("1: a corner, " + what, x.cell(0, 0, what), cell[what]);
            due("1: the other corner, " + what, x.cell(23, 15, what), cell[what]);
        }
        for (int i = 0; i < 24; i++) {
            due("1: course " + i, x.course(i, 0), 192 + i);
            due("1: in the course", x.cell(i, 8, 3), i);
        }
        for (int year = 0; year < 12; year++) {
            due("1: flow " + year, x.setFlow(year, 3), 3);
        }
        due("1: a straight river stays", x.pass(100), 0);
        due("1: and wears nothing", x.count(7), 0);
    }

    private static void promise2() {
        MeanderFarm x = oneBulge();
        due("2: before", x.setHardness(0, 0, 1), 3);
        due("2: again", x.setHardness(0, 0, 9), 1);
        due("2: from now on", x.cell(0, 0, 0), 9);
        due("2: the last cell", x.setHardness(23, 15, 5), 3);
        due("2: others stay", x.cell(22, 15, 0), 3);
        due("2: in the course", x.setHardness(3, 8, 2), 3);
        for (int[] at : new int[][] {{-1, 0}, {24, 0}, {0, -1}, {0, 16}, {LEAST, 0}, {MOST, MOST}, {24, -1}}) {
            dueThrow("2: no such cell", x, INDEX, () -> x.setHardness(at[0], at[1], 5));
            dueThrow("2: nor hardness", x, INDEX, () -> x.setHardness(at[0], at[1], 0));
        }
        for (int hardness : new int[] {0, 10, -1, LEAST, MOST}) {
            dueThrow("2: hardness", x, ARGUMENT, () -> x.setHardness(1, 1, hardness));
        }
    }

    private static void promise3() {
        MeanderFarm x = oneBulge();
        due("3: one", x.setStones(0, 0, true), 1);
        due("3: the same again", x.setStones(0, 0, true), 1);
        due("3: two", x.setStones(23, 15, true), 2);
        due("3: laid", x.cell(23, 15, 2), 1);
        due("3: in the course", x.setStones(0, 8, true), 3);
        due("3: away", x.setStones(0, 0, false), 2);
        due("3: away again", x.setStones(0, 0, false), 2);
        due("3: no stones", x.cell(0, 0, 2), 0);
        for (int[] at : new int[][] {{-1, 0}, {24, 0}, {0, -1}, {0, 16}, {LEAST, 0}, {0, MOST}}) {
            dueThrow("3: no such cell", x, INDEX, () -> x.setStones(at[0], at[1], true));
        }
    }

    private static void promise4() {
        MeanderFarm x = oneBulge();
        for (int column = 6; column <= 11; column++) {
            x.setHardness(column, column == 6 ? 6 : 9, 9);
        }
        due("4: before", x.setFlow(0, 9), 3);
        due("4: again", x.setFlow(0, 1), 9);
        due("4: the last year", x.setFlow(11, 2), 3);
        x.pass(11);
        int wear = x.cell(11, 9, 1);
        due("4: a 1 and ten times 3", wear, 31);
        x.pass(1);
        due("4: in the year 11 it is 2", x.cell(11, 9, 1), wear + 2);
        x.pass(1);
        due("4: in the year 12 it is that of 0", x.cell(11, 9, 1), wear + 3);
        for (int year : new int[] {-1, 12, LEAST, MOST}) {
            dueThrow("4: year", x, INDEX, () -> x.setFlow(year, 3));
            dueThrow("4: nor flow", x, INDEX, () -> x.setFlow(year, 0));
        }
        for (int flow : new int[] {0, 10, LEAST, MOST}) {
            dueThrow("4: flow", x, ARGUMENT, () -> x.setFlow(5, flow));
        }
    }

    private static void promise5() {
        MeanderFarm x = oneNeck();
        x.addFarm(5, 8, 2, 1);
        x.addFarm(0, 0, 24, 16);
        x.addFarm(6, 8, 1, 2);
        x.pass(2);
        x.dig(6, 9);
        x.setHardness(6, 8, 4);
        x.setStones(6, 8, true);
        int[] lake = {4, 0, 1, -1, 10, 7};
        for (int what = 0; what < 6; what++) {
            due("5: a lake, " + what, x.cell(6, 8, what), lake[what]);
        }
        int[] land = {3, 6, 0, -1, 0, 2};
        for (int what = 0; what < 6; what++) {
            due("5: a bank, " + what, x.cell(4, 6, what), land[what]);
        }
        due("5: in the course", x.cell(23, 8, 3), 25);
        due("5: below the third farm", x.cell(6, 9, 5), 6);
        due("5: farther below", x.cell(6, 10, 5), 2);
        due("5: left of the first farm", x.cell(4, 8, 5), 2);
        for (int[] at : new int[][] {{-1, 0, 0}, {24, 0, 0}, {0, -1, 0}, {0, 16, 0}, {0, 0, -1}, {0, 0, 6},
            {MOST, 0, 0}, {0, LEAST, 0}, {0, 0, MOST}, {0, 0, LEAST}}) {
            dueThrow("5: no such", x, INDEX, () -> x.cell(at[0], at[1], at[2]));
        }
    }

    private static void dueCourse(String what, MeanderFarm x, int index, int[] want) {
        for (int k = 0; k < 5; k++) {
            due(what + ", course(" + index + ", " + k + ")", x.course(index, k), want[k]);
        }
    }

    private static void promise6() {
        MeanderFarm x = oneBulge();
        dueCourse("6: the first", x, 0, new int[] {192, 1, 0, -1, -1});
        dueCourse("6: straight, without a bend", x, 1, new int[] {193, 1, 1, -1, -1});
        dueCourse("6: upwards", x, 5, new int[] {197, 0, 0, -1, -1});
        dueCourse("6: a corner", x, 6, new int[] {173, 1, 0, -1, -1});
        dueCourse("6: the top", x, 7, new int[] {174, 1, 1, 0, 150});
        dueCourse("6: downwards", x, 8, new int[] {175, 2, 0, -1, -1});
        dueCourse("6: a bend", x, 9, new int[] {199, 1, 0, -1, -1});
        dueCourse("6: 1 behind it", x, 10, new int[] {200, 1, 1, 2, 224});
        dueCourse("6: the last", x, 25, new int[] {215, -1, 0, -1, -1});
        x.slip(10, 2);
        dueCourse("6: a bend downwards", x, 10, new int[] {223, 1, 0, -1, -1});
        x.slip(11, 2);
        dueCourse("6: straight downwards", x, 9, new int[] {199, 2, 1, 1, 200});
        for (int[] at : new int[][] {{-1, 0}, {30, 0}, {0, -1}, {0, 5}, {MOST, 0}, {LEAST, 0}, {0, MOST}}) {
            dueThrow("6: no such", x, INDEX, () -> x.course(at[0], at[1]));
        }
        due("6: the last one is there", x.course(29, 0), 215);
    }

    private static void promise6Thrown() {
        MeanderFarm x = oneBulge();
        dueCourse("6: 4 behind the bend", x, 13, new int[] {203, 1, 1, 2, 227});
        dueCourse("6: 5 behind the bend", x, 14, new int[] {204, 1, 1, -1, -1});
        MeanderFarm high = new MeanderFarm();
        for (int row = 0; row < 8; row++) {
            high.slip(6 + row, 0);
        }
        dueCourse("6: its bank is not in the plain", high, 14, new int[] {6, 1, 1, 0, -1});
        dueThrow("6: nor can a bulge be", high, STATE, () -> high.slip(14, 0));
        dueCourse("6: its bank is in the course", highNeck(), 8, new int[] {173, 2, 1, 1, 174});
        due("6: in the course", highNeck().cell(6, 7, 3), 11);
    }

    private static void dueCells(String what, MeanderFarm x, int from, int... cells) {
        for (int k = 0; k < cells.length; k++) {
            due(what + ", course(" + (from + k) + ", 0)", x.course(from + k, 0), cells[k]);
        }
    }

    private static void promise7() {
        MeanderFarm x = new MeanderFarm();
        due("7: three for one", x.slip(6, 0), 26);
        dueCells("7: three for one", x, 5, 197, 173, 174, 175, 199);
        due("7: the one between is out", x.cell(6, 8, 3), -1);
        due("7: no lake", x.cell(6, 8, 4), 0);
        due("7: downwards", x.slip(11, 2), 28);
        for (int index : new int[] {-1, 28, LEAST, MOST}) {
            dueThrow("7: index", x, INDEX, () -> x.slip(index, 0));
            dueThrow("7: nor side", x, INDEX, () -> x.slip(index, 4));
        }
        for (int side : new int[] {-1, 4, LEAST, MOST}) {
            dueThrow("7: side", x, ARGUMENT, () -> x.slip(2, side));
            dueThrow("7: nor straight", x, ARGUMENT, () -> x.slip(0, side));
        }
        for (int index : new int[] {0, 5, 6, 27}) {
            dueThrow("7: not straight", x, STATE, () -> x.slip(index, 0));
        }
        dueThrow("7: along", x, STATE, () -> x.slip(3, 1));
        dueThrow("7: against", x, STATE, () -> x.slip(3, 3));
        dueThrow("7: into the course on the right", x, STATE, () -> x.slip(4, 0));
        MeanderFarm right = oneBulge();
        dueThrow("7: into the course on the left", right, STATE, () -> right.slip(10, 0));
    }

    private static void promise7Sideways() {
        MeanderFarm x = oneBulge();
        x.slip(7, 0);
        x.slip(8, 0);
        dueThrow("7: into the course below", x, STATE, () -> x.slip(6, 3));
        due("7: to the left", x.slip(7, 3), 32);
        dueCells("7: to the left", x, 6, 173, 172, 148, 124, 125);
        due("7: to the right", x.slip(13, 1), 34);
        dueCells("7: to the right", x, 12, 127, 128, 152, 176, 175);
        MeanderFarm left = new MeanderFarm();
        for (int row = 0; row < 4; row++) {
            left.slip(1 + row, 2);
        }
        due("7: straight downwards", left.course(3, 2), 1);
        due("7: in the column 0", left.course(3, 0), 11 * 24);
        dueThrow("7: out of the plain on the left", left, STATE, () -> left.slip(3, 3));
        MeanderFarm high = new MeanderFarm();
        for (int row = 0; row < 4; row++) {
            high.slip(22 + row, 0);
        }
        due("7: straight, in the column 23", high.course(high.cell(23, 5, 3), 2), 1);
        int index = high.cell(23, 5, 3);
        dueThrow("7: out of the plain on the right", high, STATE, () -> high.slip(index, 1));
        MeanderFarm low = new MeanderFarm();
        for (int row = 0; row < 7; row++) {
            low.slip(6 + row, 2);
        }
        due("7: in the last row", low.course(13, 0), 6 + 24 * 15);
        dueThrow("7: out of the plain below", low, STATE, () -> low.slip(13, 2));
    }

    private static void promise7LakesAndWear() {
        MeanderFarm x = oneNeck();
        x.pass(3);
        x.dig(6, 9);
        due("7: lakes", x.count(2), 2);
        due("7: over lakes", x.slip(6, 2), 28);
        due("7: no lakes any more", x.count(2), 0);
        MeanderFarm worn = oneNeck();
        worn.pass(3);
        due("7: worn", worn.cell(4, 6, 1), 9);
        worn.slip(5, 0);
        due("7: worn no more", worn.cell(4, 6, 1), 0);
    }

    private static void promise7Stones() {
        for (int column = 4; column <= 8; column++) {
            MeanderFarm x = new MeanderFarm();
            x.setStones(column, 7, true);
            x.setStones(6, 8, true);
            if (column == 4 || column == 8) {
                due("7: stones beside the three do not hinder", x.slip(6, 0), 26);
            } else {
                dueThrow("7: stones hinder", x, STATE, () -> x.slip(6, 0));
                due("7: not on the other side", x.slip(6, 2), 26);
            }
        }
    }

    /** Bulges as high and as deep as the plain, side by side all along the river, and so many sideways. */
    private static MeanderFarm longCourse(int sideways) {
        MeanderFarm x = new MeanderFarm();
        for (int column = 1; column < 24; column += 3) {
            int side = column % 2 == 1 ? 0 : 2;
            int top = x.cell(column, 8, 3);
            for (int row = 0; row < (side == 0 ? 8 : 7); row++) {
                x.slip(top + row, side);
            }
        }
        for (int k = 0; k < sideways; k++) {
            x.slip(x.cell(2 + 6 * k, 4, 3), 1);
        }
        return x;
    }

    private static void promise7MostCells() {
        MeanderFarm x = longCourse(2);
        due("7: nearly the most cells", x.count(1), 148);
        due("7: the most cells", x.slip(x.cell(14, 4, 3), 1), 150);
        int index = x.cell(20, 4, 3);
        due("7: straight", x.course(index, 2), 1);
        dueThrow("7: more than 150 cells", x, STATE, () -> x.slip(index, 1));
        due("7: it could be with fewer", longCourse(0).slip(longCourse(0).cell(20, 4, 3), 1), 146);
        due("12: nor is there a bulge in any year", x.pass(60), 0);
        due("12: for all wear", x.count(7) > 0 ? 1 : 0, 1);
        due("12: with 148 there is just one", longCourse(2).pass(60), 1);
    }

    private static void promise8() {
        MeanderFarm x = oneNeck();
        x.setStones(5, 8, true);
        for (int[] pair : new int[][] {{-1, 0}, {0, 28}, {28, 0}, {0, -1}, {MOST, LEAST}, {6, 28}, {-1, 9}}) {
            dueThrow("8: no such cell", x, INDEX, () -> x.dig(pair[0], pair[1]));
        }
        for (int[] pair : new int[][] {{9, 6}, {6, 6}, {6, 7}, {6, 10}, {5, 9}, {0, 27}, {3, 12}, {0, 3}}) {
            dueThrow("8: no neck", x, STATE, () -> x.dig(pair[0], pair[1]));
        }
        due("8: through it, for all stones", x.dig(6, 9), 26);
        due("8: its first cell", x.course(6, 0), 5 + 24 * 7);
        due("8: its other cell", x.course(7, 0), 6 + 24 * 7);
        due("8: its number", x.cell(6, 7, 3), 7);
        due("8: a lake", x.cell(5, 8, 4), 10);
        due("8: another", x.cell(6, 8, 4), 10);
        due("8: out of the course", x.cell(5, 8, 3), -1);
        due("8: two lakes", x.count(2), 2);
        due("8: a break", x.count(3), 1);
        dueThrow("8: no neck any more", x, STATE, () -> x.dig(6, 9));
        MeanderFarm high = highNeck();
        due("8: the lower neck of two", high.dig(8, 11), 30);
        due("8: the upper one is nearer now", high.neck(2), 10);
        due("8: through it too", high.dig(7, 10), 28);
        due("8: two breaks", high.count(3), 2);
        MeanderFarm edges = new MeanderFarm();
        edges.slip(22, 0);
        due("8: the last cell of the row 7", edges.course(24, 0), 191);
        due("8: the first cell of the row 8", edges.course(0, 0), 192);
        dueThrow("8: both are not side by side", edges, STATE, () -> edges.dig(0, 24));
        due("8: and no neck", edges.neck(0), 0);
    }

    private static void dueNeck(String what, MeanderFarm x, int... want) {
        for (int k = 0; k < 4; k++) {
            due(what + ", neck(" + k + ")", x.neck(k), want[k]);
        }
    }

    private static void promise9() {
        dueNeck("9: none", new MeanderFarm(), 0, -1, -1, 0);
        dueNeck("9: none in a bulge", oneBulge(), 0, -1, -1, 0);
        dueNeck("9: one", oneNeck(), 1, 6, 9, 2);
        MeanderFarm x = oneNeck();
        x.slip(14, 0);
        dueNeck("9: two alike", x, 2, 6, 9, 4);
        dueNeck("9: the greater one first", highNeck(), 2, 7, 12, 4);
        MeanderFarm later = highNeck();
        later.slip(18, 0);
        dueNeck("9: and another one", later, 3, 7, 12, 6);
        MeanderFarm beyond = new MeanderFarm();
        beyond.slip(4, 0);
        beyond.slip(9, 0);
        beyond.slip(14, 0);
        beyond.slip(10, 0);
        beyond.slip(17, 0);
        dueNeck("9: the greater one is not the first", beyond, 3, 12, 17, 6);
        long before = beyond.digest();
        beyond.neck(3);
        due("9: nothing changes", beyond.digest() == before ? 1 : 0, 1);
        for (int what : new int[] {-1, 4, LEAST, MOST}) {
            dueThrow("9: what", x, INDEX, () -> x.neck(what));
        }
    }

    private static void promise10() {
        MeanderFarm x = oneBulge();
        int[][] bad = {{0, 0, 0, 1}, {0, 0, 1, 0}, {-1, 0, 1, 1}, {0, -1, 1, 1}, {24, 0, 1, 1}, {0, 16, 1, 1},
            {0, 0, 25, 1}, {0, 0, 1, 17}, {23, 0, 2, 1}, {0, 15, 1, 2}, {0, 0, -1, 1}, {0, 0, 1, -1}, {5, 0, MOST, 1},
            {0, 5, 1, MOST}, {MOST, 0, 1, 1}, {MOST, MOST, MOST, MOST}, {LEAST, LEAST, LEAST, LEAST}, {0, 0, LEAST, 1}};
        for (int[] at : bad) {
            dueThrow("10: not all in the plain", x, ARGUMENT, () -> x.addFarm(at[0], at[1], at[2], at[3]));
        }
        due("10: the first", x.addFarm(0, 0, 24, 16), 0);
        due("10: it is the whole plain", x.farm(0, 0), 384);
        due("10: one cell", x.addFarm(23, 15, 1, 1), 1);
        due("10: it may overlap", x.addFarm(20, 10, 4, 6), 2);
        due("10: the fourth", x.addFarm(20, 10, 4, 6), 3);
        due("10: the fifth", x.addFarm(0, 15, 24, 1), 4);
        due("10: the sixth", x.addFarm(23, 0, 1, 16), 5);
        due("10: six", x.count(4), 6);
        dueThrow("10: a seventh", x, STATE, () -> x.addFarm(0, 0, 1, 1));
        for (int[] at : bad) {
            dueThrow("10: a bad seventh", x, ARGUMENT, () -> x.addFarm(at[0], at[1], at[2], at[3]));
        }
    }

    private static void promise11() {
        MeanderFarm x = oneNeck();
        x.addFarm(5, 7, 3, 4);
        x.addFarm(0, 0, 1, 1);
        x.setStones(5, 8, true);
        x.setStones(6, 10, true);
        x.setStones(4, 8, true);
        int[] before = {12, 7, 5, 0, 2};
        for (int what = 0; what < 5; what++) {
            due("11: ahead of the break, " + what, x.farm(0, what), before[what]);
        }
        x.dig(6, 9);
        int[] behind = {12, 7, 3, 2, 2};
        for (int what = 0; what < 5; what++) {
            due("11: behind it, " + what, x.farm(0, what), behind[what]);
        }
        x.pass(10);
        due("11: silted up", x.farm(0, 3), 0);
        due("11: land again", x.farm(0, 1) + x.farm(0, 2), 12);
        int[] corner = {1, 1, 0, 0, 0};
        for (int what = 0; what < 5; what++) {
            due("11: a corner, " + what, x.farm(1, what), corner[what]);
        }
        for (int[] at : new int[][] {{-1, 0}, {2, 0}, {6, 0}, {0, -1}, {0, 5}, {MOST, 0}, {LEAST, 0}, {0, LEAST}}) {
            dueThrow("11: no such", x, INDEX, () -> x.farm(at[0], at[1]));
        }
    }

    private static void promise12Wear() {
        MeanderFarm x = oneBulge();
        for (int years : new int[] {0, 101, -1, LEAST, MOST}) {
            dueThrow("12: years", x, ARGUMENT, () -> x.pass(years));
        }
        x.setStones(9, 9, true);
        due("12: no bulge", x.pass(1), 0);
        due("12: a year", x.count(0), 1);
        due("12: above the top", x.cell(6, 6, 1), 3);
        due("12: 1 behind the bend", x.cell(8, 9, 1), 3);
        due("12: stones", x.cell(9, 9, 1), 0);
        due("12: 4 behind the bend", x.cell(11, 9, 1), 3);
        due("12: 5 behind it", x.cell(12, 9, 1), 0);
        due("12: all of it", x.count(7), 12);
        x.setStones(9, 9, false);
        x.pass(2);
        due("12: more", x.cell(6, 6, 1), 9);
        due("12: without the stones", x.cell(9, 9, 1), 6);
        due("12: a hundred years", x.pass(100) > 0 ? 1 : 0, 1);
        due("12: then", x.count(0), 103);
        MeanderFarm high = highNeck();
        high.pass(1);
        due("12: none in the course", high.cell(6, 7, 1), 0);
        MeanderFarm both = new MeanderFarm();
        for (int row = 0; row < 3; row++) {
            both.slip(1 + row, 0);
        }
        for (int row = 0; row < 3; row++) {
            both.slip(12 + row, 0);
        }
        both.slip(both.cell(5, 6, 3), 3);
        due("12: from the left", both.course(both.cell(2, 6, 3), 4), 3 + 24 * 6);
        due("12: from the right", both.course(both.cell(4, 6, 3), 4), 3 + 24 * 6);
        both.pass(1);
        due("12: the bank of two", both.cell(3, 6, 1), 6);
    }

    private static void promise12Bulge() {
        MeanderFarm x = oneBulge();
        due("12: 27 is too little", x.pass(9), 0);
        due("12: 27", x.cell(6, 6, 1), 27);
        due("12: 30 is enough", x.pass(1), 1);
        int[] cells = {173, 149, 150, 151, 175};
        for (int k = 0; k < 5; k++) {
            due("12: of several the smallest number", x.course(6 + k, 0), cells[k]);
        }
        due("12: no wear in the course", x.cell(6, 6, 1), 0);
        due("12: one in a year", x.cell(8, 9, 1), 30);
        due("12: the next one in the next year", x.pass(1), 1);
        due("12: it is there", x.cell(8, 9, 3) != -1 ? 1 : 0, 1);
        MeanderFarm high = oneBulge();
        high.setHardness(6, 6, 9);
        holdLowerBanks(high);
        due("12: 87 is too little for 9", high.pass(29), 0);
        due("12: 90 is enough", high.pass(1), 1);
        MeanderFarm held = oneBulge();
        held.setStones(6, 6, true);
        holdLowerBanks(held);
        due("12: stones hold", held.pass(100), 0);
        MeanderFarm beside = oneBulge();
        beside.setStones(7, 6, true);
        holdLowerBanks(beside);
        due("12: stones beside the bank hold", beside.pass(11), 0);
        due("12: but it wears", beside.cell(6, 6, 1), 33);
        beside.setStones(7, 6, false);
        due("12: without them", beside.pass(1), 1);
    }

    private static void promise12BulgeOfSeveral() {
        MeanderFarm x = oneBulge();
        x.setHardness(10, 9, 1);
        x.setStones(10, 10, true);
        due("12: three years", x.pass(3), 0);
        due("12: 12 for 10", x.pass(1), 1);
        due("12: the soft one, though not the first", x.cell(10, 9, 3) != -1 ? 1 : 0, 1);
        MeanderFarm most = oneBulge();
        most.setHardness(10, 9, 1);
        most.setStones(9, 9, true);
        due("12: the soft one cannot be", most.pass(9), 0);
        most.setStones(9, 9, false);
        due("12: now 30 for 10, and 30 for 30", most.pass(1), 1);
        due("12: the one with the most over", most.cell(10, 9, 3) != -1 ? 1 : 0, 1);
        due("12: not the first one", most.cell(6, 6, 3), -1);
        MeanderFarm over = oneBulge();
        over.setStones(5, 6, true);
        over.setStones(10, 9, true);
        over.setHardness(8, 9, 9);
        over.setHardness(9, 9, 9);
        over.setHardness(11, 9, 9);
        over.pass(5);
        over.setHardness(10, 9, 1);
        over.setStones(10, 9, false);
        over.setStones(9, 9, true);
        due("12: none can be", over.pass(5), 0);
        over.setStones(5, 6, false);
        over.setStones(9, 9, false);
        due("12: now 33 for 30, and 18 for 10", over.pass(1), 1);
        due("12: it is not the most wear", over.cell(10, 9, 3) != -1 ? 1 : 0, 1);
        due("12: that stays", over.cell(6, 6, 1), 33);
    }

    private static void promise12Flood() {
        MeanderFarm low = oneNeck();
        setAllFlows(low, 6);
        low.pass(1);
        due("12: 6 is no flood", low.count(3), 0);
        MeanderFarm x = oneNeck();
        x.setFlow(0, 7);
        x.pass(1);
        due("12: 7 is one", x.count(3), 1);
        due("12: shorter", x.count(1), 26);
        due("12: a new lake is one for a year less", x.cell(5, 8, 4), 9);
        due("12: another", x.cell(6, 8, 4), 9);
        MeanderFarm three = highNeck();
        three.slip(18, 0);
        three.setFlow(0, 9);
        three.pass(1);
        due("12: as long as there are necks", three.neck(0), 0);
        due("12: by the greatest first, so two breaks", three.count(3), 2);
        due("12: its cells", three.count(1), 28);
        due("12: lakes", three.count(2), 6);
    }

    private static void promise12Lakes() {
        MeanderFarm x = oneNeck();
        setAllFlows(x, 1);
        x.dig(6, 9);
        for (int years = 1; years <= 9; years++) {
            x.pass(1);
            due("12: a year less", x.cell(5, 8, 4), 10 - years);
        }
        due("12: still lakes", x.count(2), 2);
        x.pass(1);
        due("12: none any more", x.count(2), 0);
        due("12: none", x.cell(5, 8, 4), 0);
        x.pass(1);
        due("12: nor less than none", x.cell(5, 8, 4), 0);
    }

    private static void promise13() {
        MeanderFarm x = oneNeck();
        x.setStones(0, 0, true);
        x.addFarm(0, 0, 2, 2);
        x.pass(2);
        x.dig(6, 9);
        int[] counts = {2, 26, 2, 1, 1, 1, 4, x.count(7)};
        for (int what = 0; what < 8; what++) {
            due("13: count " + what, x.count(what), counts[what]);
        }
        int wear = 0;
        for (int cell = 0; cell < 384; cell++) {
            wear += x.cell(cell % 24, cell / 24, 1);
        }
        due("13: all wear", x.count(7), wear);
        due("13: bends", oneNeck().count(6), 8);
        MeanderFarm early = new MeanderFarm();
        early.slip(1, 2);
        due("13: the first cell is no bend, though it goes down", early.count(6), 3);
        MeanderFarm late = new MeanderFarm();
        late.slip(22, 2);
        due("13: the last cell is none either", late.count(6), 3);
        for (int what : new int[] {-1, 8, LEAST, MOST}) {
            dueThrow("13: what", x, INDEX, () -> x.count(what));
        }
    }

    private static void promise14() {
        MeanderFarm x = oneNeck();
        x.setFlow(3, 8);
        x.dig(6, 9);
        x.slip(6, 2);
        for (int years : new int[] {1, 3, 4, 17, 100}) {
            MeanderFarm same = oneNeck();
            same.setFlow(3, 8);
            same.dig(6, 9);
            same.slip(6, 2);
            long before = x.digest();
            int[] told = {x.foresee(years, 0), x.foresee(years, 1), x.foresee(years, 2)};
            due("14: nothing is changed", x.digest() == before ? 1 : 0, 1);
            due("14: bulges", told[2], same.pass(years));
            due("14: cells", told[0], same.count(1));
            due("14: breaks in these years alone", told[1], same.count(3) - 1);
        }
        due("14: a bulge in the tenth year", oneBulge().foresee(10, 2), 1);
        due("14: none ahead of it", oneBulge().foresee(9, 2), 0);
        for (int years : new int[] {0, 101, LEAST, MOST}) {
            dueThrow("14: years", x, ARGUMENT, () -> x.foresee(years, 0));
            dueThrow("14: nor what", x, ARGUMENT, () -> x.foresee(years, 3));
        }
        for (int what : new int[] {-1, 3, LEAST, MOST}) {
            dueThrow("14: what", x, INDEX, () -> x.foresee(5, what));
        }
    }

    private static void promise15() {
        MeanderFarm x = oneBulge();
        x.addFarm(6, 6, 1, 1);
        x.addFarm(5, 6, 1, 1);
        x.addFarm(0, 0, 1, 1);
        x.addFarm(0, 8, 1, 1);
        long before = x.digest();
        due("15: the bank", x.loses(0), 10);
        due("15: beside it", x.loses(1), 10);
        due("15: far away", x.loses(2), -1);
        due("15: no land to lose", x.loses(3), -1);
        due("15: nothing is changed", x.digest() == before ? 1 : 0, 1);
        for (int farm : new int[] {-1, 4, LEAST, MOST}) {
            dueThrow("15: no such farm", x, INDEX, () -> x.loses(farm));
        }
        MeanderFarm slow = oneBulge();
        slow.addFarm(6, 6, 1, 1);
        slow.setHardness(6, 6, 9);
        holdLowerBanks(slow);
        for (int year = 0; year < 12; year++) {
            slow.setFlow(year, 1 + year % 2);
        }
        due("15: behind 60 years", slow.loses(0), 60);
        slow.setFlow(11, 1);
        due("15: not in 60 years", slow.loses(0), -1);
        slow.pass(1);
        due("15: nor in 61", slow.loses(0), -1);
    }

    private static void promise16() {
        MeanderFarm x = oneBulge();
        x.addFarm(5, 6, 3, 1);
        x.addFarm(0, 0, 2, 2);
        due("16: nothing has wear yet", x.advise(0, 30), -1);
        x.pass(1);
        long before = x.digest();
        due("16: too few years to lose", x.advise(0, 8), -1);
        due("16: the bank", x.advise(0, 9), 6 + 24 * 6);
        due("16: nothing to hold", x.advise(1, 30), -1);
        due("16: nothing is changed", x.digest() == before ? 1 : 0, 1);
        x.setStones(6, 6, true);
        x.addFarm(7, 9, 1, 1);
        due("16: of two the smaller number", x.advise(2, 10), 8 + 24 * 9);
        x.setStones(8, 9, true);
        due("16: nothing is lost", x.advise(2, 10), -1);
        for (int farm : new int[] {-1, 3, LEAST, MOST}) {
            dueThrow("16: no such farm", x, INDEX, () -> x.advise(farm, 5));
            dueThrow("16: nor years", x, INDEX, () -> x.advise(farm, 0));
        }
        for (int years : new int[] {0, 31, LEAST, MOST}) {
            dueThrow("16: years", x, ARGUMENT, () -> x.advise(0, years));
        }
        MeanderFarm last = oneBulge();
        last.addFarm(6, 6, 1, 1);
        last.setHardness(6, 6, 9);
        holdLowerBanks(last);
        last.pass(1);
        due("16: behind 29 years", last.advise(0, 29), 6 + 24 * 6);
        due("16: behind 30 years", last.advise(0, 30), 6 + 24 * 6);
        due("16: not behind 28", last.advise(0, 28), -1);
        last.pass(28);
        due("16: behind one year", last.advise(0, 1), 6 + 24 * 6);
        MeanderFarm little = oneBulge();
        little.addFarm(6, 6, 1, 1);
        little.setFlow(0, 1);
        little.pass(1);
        due("16: a wear of 1 is wear", little.advise(0, 10), 6 + 24 * 6);
    }

    private static void promise17() {
        due("17: straight", new MeanderFarm().winding(), 1.0);
        due("17: 26", oneBulge().winding(), 26 / 24.0);
        due("17: 28", oneNeck().winding(), 28 / 24.0);
        due("17: 32", highNeck().winding(), 32 / 24.0);
    }

    private interface Recipe {
        MeanderFarm make();
    }

    /** By several objects that are made alike, as none is good for more than 512 calls. */
    private static long checksum(Recipe recipe) {
        List<Integer> all = new ArrayList<>();
        MeanderFarm x = recipe.make();
        for (int what = 0; what < 8; what++) {
            all.add(x.count(what));
        }
        MeanderFarm flows = recipe.make();
        for (int year = 0; year < 12; year++) {
            all.add(flows.setFlow(year, 1));
        }
        for (int index = 0; index < x.count(1); index++) {
            all.add(x.course(index, 0));
        }
        int[] kinds = {0, 1, 2, 4};
        MeanderFarm[] alike = {recipe.make(), recipe.make(), recipe.make(), recipe.make()};
        for (int cell = 0; cell < 384; cell++) {
            for (int k = 0; k < 4; k++) {
                all.add(alike[k].cell(cell % 24, cell / 24, kinds[k]));
            }
        }
        for (int farm = 0; farm < x.count(4); farm++) {
            for (int what = 0; what < 5; what++) {
                all.add(x.farm(farm, what));
            }
        }
        long d = 599;
        for (int one : all) {
            d = d * 31 + one;
        }
        return d;
    }

    private static MeanderFarm manySided() {
        MeanderFarm x = oneNeck();
        x.addFarm(3, 4, 5, 6);
        x.addFarm(5, 8, 2, 2);
        x.setFlow(7, 8);
        x.setHardness(9, 9, 1);
        x.setStones(6, 8, true);
        x.pass(15);
        return x;
    }

    private static void promise18() {
        due("18: a new object", new MeanderFarm().digest() == checksum(MeanderFarm::new) ? 1 : 0, 1);
        MeanderFarm x = manySided();
        due("18: it tells the same twice", x.digest() == x.digest() ? 1 : 0, 1);
        due("18: after years", x.digest() == checksum(PromiseTest::manySided) ? 1 : 0, 1);
    }
}
