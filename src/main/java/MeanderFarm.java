/** A river in a plain, which bends more and more, and cuts new channels, under the farms at its banks. */
public final class MeanderFarm {
    private static final int COLUMNS = 24;
    private static final int ROWS = 16;
    private static final int CELLS = COLUMNS * ROWS;
    private static final int SIDES = 4;
    private static final int FIRST_ROW_OF_RIVER = 8;
    private static final int MOST_COURSE = 150;
    private static final int FARTHEST_BEND = 4;
    private static final int NECK_APART = 3;
    private static final int LAKE_YEARS = 10;
    private static final int WEAR_PER_HARDNESS = 10;
    private static final int FLOW_YEARS = 12;
    private static final int FLOOD_FLOW = 7;
    private static final int MOST_GRADE = 9;
    private static final int FIRST_GRADE = 3;
    private static final int MOST_FARMS = 6;
    private static final int MOST_YEARS = 100;
    private static final int MOST_YEARS_TO_LOSE = 60;
    private static final int MOST_YEARS_TO_ADVISE = 30;
    private static final int NONE = -1;
    private static final int COUNTS = 8;
    private static final int FARM_COUNTS = 5;
    private static final int FARM_LAND = 1;
    private static final long DIGEST_START = 599L;
    private static final long DIGEST_FACTOR = 31L;

    private final River now;
    /** Kept for looking ahead, so that no call makes a river of its own. */
    private final River ahead;
    private final Farms farms;
    /** The cells that bulges take if nothing is done, kept while advise() plays what happens with stones. */
    private final boolean[] endangered = new boolean[CELLS];

    public MeanderFarm() {
        now = new River();
        ahead = new River();
        farms = new Farms();
    }

    // ---- the plain

    public int setHardness(int x, int y, int hardness) throws IndexOutOfBoundsException, IllegalArgumentException {
        int cell = cellNumber(x, y);
        if (!isCell(cell)) {
            throw new IndexOutOfBoundsException("no such cell");
        }
        if (!isGrade(hardness)) {
            throw new IllegalArgumentException("hardness is not 1 to 9");
        }
        int before = now.hardness[cell];
        now.hardness[cell] = hardness;
        return before;
    }

    public int setStones(int x, int y, boolean hasStones) throws IndexOutOfBoundsException {
        int cell = cellNumber(x, y);
        if (!isCell(cell)) {
            throw new IndexOutOfBoundsException("no such cell");
        }
        now.stones[cell] = hasStones;
        return now.cellsWithStones();
    }

    public int setFlow(int year, int flow) throws IndexOutOfBoundsException, IllegalArgumentException {
        if (year < 0 || year >= FLOW_YEARS) {
            throw new IndexOutOfBoundsException("year is not 0 to 11");
        }
        if (!isGrade(flow)) {
            throw new IllegalArgumentException("flow is not 1 to 9");
        }
        int before = now.flow[year];
        now.flow[year] = flow;
        return before;
    }

    public int cell(int x, int y, int what) throws IndexOutOfBoundsException {
        int cell = cellNumber(x, y);
        if (!isCell(cell)) {
            throw new IndexOutOfBoundsException("no such cell");
        }
        switch (what) {
            case 0:
                return now.hardness[cell];
            case 1:
                return now.wear[cell];
            case 2:
                return now.stones[cell] ? 1 : 0;
            case 3:
                return now.place[cell];
            case 4:
                return now.lakeYearsLeft(cell);
            case 5:
                return farms.farmsAt(x, y);
            default:
                throw new IndexOutOfBoundsException("what is not 0 to 5");
        }
    }

    // ---- the river

    public int course(int index, int what) throws IndexOutOfBoundsException {
        if (!now.isInCourse(index)) {
            throw new IndexOutOfBoundsException("no such cell of the course");
        }
        switch (what) {
            case 0:
                return now.course[index];
            case 1:
                return now.direction[index];
            case 2:
                return now.isStraight(index) ? 1 : 0;
            case 3:
                return now.thrown[index];
            case 4:
                return now.bank[index];
            default:
                throw new IndexOutOfBoundsException("what is not 0 to 4");
        }
    }

    public int slip(int index, int side)
            throws IndexOutOfBoundsException, IllegalArgumentException, IllegalStateException {
        if (!now.isInCourse(index)) {
            throw new IndexOutOfBoundsException("no such cell of the course");
        }
        if (side < 0 || side >= SIDES) {
            throw new IllegalArgumentException("side is not 0 to 3");
        }
        if (!now.canBulge(index, side)) {
            throw new IllegalStateException("a bulge to this side cannot be");
        }
        now.bulge(index, side);
        return now.length;
    }

    public int dig(int i, int j) throws IndexOutOfBoundsException, IllegalStateException {
        if (!now.isInCourse(i) || !now.isInCourse(j)) {
            throw new IndexOutOfBoundsException("no such cell of the course");
        }
        if (!now.isNeck(i, j)) {
            throw new IllegalStateException("both are no neck");
        }
        now.breakThrough(i, j);
        return now.length;
    }

    public int neck(int what) throws IndexOutOfBoundsException {
        switch (what) {
            case 0:
                return now.necks();
            case 1:
                return now.widestNeck();
            case 2:
                return now.farthestAcross(now.widestNeck());
            case 3:
                ahead.copyFrom(now);
                ahead.flood();
                return now.length - ahead.length;
            default:
                throw new IndexOutOfBoundsException("what is not 0 to 3");
        }
    }

    // ---- farms

    public int addFarm(int x, int y, int wide, int deep) throws IllegalArgumentException, IllegalStateException {
        if (!isSpan(x, wide, COLUMNS) || !isSpan(y, deep, ROWS)) {
            throw new IllegalArgumentException("the farm is empty, or not all in the plain");
        }
        if (farms.size >= MOST_FARMS) {
            throw new IllegalStateException("there are 6 farms");
        }
        return farms.append(x, y, wide, deep);
    }

    public int farm(int farm, int what) throws IndexOutOfBoundsException {
        if (!farms.isFarm(farm)) {
            throw new IndexOutOfBoundsException("no such farm");
        }
        if (what < 0 || what >= FARM_COUNTS) {
            throw new IndexOutOfBoundsException("what is not 0 to 4");
        }
        return farms.cellsOf(farm, what, now);
    }

    // ---- years

    public int pass(int years) throws IllegalArgumentException {
        if (years < 1 || years > MOST_YEARS) {
            throw new IllegalArgumentException("years is not 1 to 100");
        }
        return now.letPass(years);
    }

    public int count(int what) throws IndexOutOfBoundsException {
        if (what < 0 || what >= COUNTS) {
            throw new IndexOutOfBoundsException("what is not 0 to 7");
        }
        return total(what);
    }

    // ---- looking ahead

    public int foresee(int years, int what) throws IllegalArgumentException, IndexOutOfBoundsException {
        if (years < 1 || years > MOST_YEARS) {
            throw new IllegalArgumentException("years is not 1 to 100");
        }
        if (what < 0 || what > 2) {
            throw new IndexOutOfBoundsException("what is not 0 to 2");
        }
        ahead.copyFrom(now);
        int bulges = ahead.letPass(years);
        if (what == 0) {
            return ahead.length;
        }
        return what == 1 ? ahead.breaks - now.breaks : bulges;
    }

    public int loses(int farm) throws IndexOutOfBoundsException {
        if (!farms.isFarm(farm)) {
            throw new IndexOutOfBoundsException("no such farm");
        }
        int land = farms.cellsOf(farm, FARM_LAND, now);
        ahead.copyFrom(now);
        for (int years = 1; years <= MOST_YEARS_TO_LOSE; years++) {
            ahead.letPass(1);
            if (farms.cellsOf(farm, FARM_LAND, ahead) < land) {
                return years;
            }
        }
        return NONE;
    }

    public int advise(int farm, int years) throws IndexOutOfBoundsException, IllegalArgumentException {
        if (!farms.isFarm(farm)) {
            throw new IndexOutOfBoundsException("no such farm");
        }
        if (years < 1 || years > MOST_YEARS_TO_ADVISE) {
            throw new IllegalArgumentException("years is not 1 to 30");
        }
        int best = NONE;
        int most = landAhead(farm, years, NONE);
        System.arraycopy(ahead.bulgedInto, 0, endangered, 0, CELLS);
        for (int cell = 0; cell < CELLS; cell++) {
            // Stones hinder only a bulge that takes their cell: elsewhere the course, and so the land, stays the same.
            if (endangered[cell] && now.wear[cell] > 0 && !now.stones[cell]) {
                int land = landAhead(farm, years, cell);
                if (land > most) {
                    most = land;
                    best = cell;
                }
            }
        }
        return best;
    }

    public double winding() {
        return (double) now.length / COLUMNS;
    }

    public long digest() {
        long d = DIGEST_START;
        for (int what = 0; what < COUNTS; what++) {
            d = d * DIGEST_FACTOR + total(what);
        }
        d = now.digestFrom(d);
        for (int farm = 0; farm < farms.size; farm++) {
            for (int what = 0; what < FARM_COUNTS; what++) {
                d = d * DIGEST_FACTOR + farms.cellsOf(farm, what, now);
            }
        }
        return d;
    }

    // ---- what the calls share

    private int total(int what) {
        switch (what) {
            case 0:
                return now.year;
            case 1:
                return now.length;
            case 2:
                return now.lakes();
            case 3:
                return now.breaks;
            case 4:
                return farms.size;
            case 5:
                return now.cellsWithStones();
            case 6:
                return now.bends();
            default:
                return now.allWear();
        }
    }

    /** The land of a farm behind so many years, with stones laid now on one cell more, or on none. */
    private int landAhead(int farm, int years, int stonesOn) {
        ahead.copyFrom(now);
        if (isCell(stonesOn)) {
            ahead.stones[stonesOn] = true;
        }
        ahead.letPass(years);
        return farms.cellsOf(farm, FARM_LAND, ahead);
    }

    private static boolean isGrade(int grade) {
        return grade >= 1 && grade <= MOST_GRADE;
    }

    /** Compares with what is left behind the start: the sum of both could wrap around. */
    private static boolean isSpan(int start, int size, int end) {
        return start >= 0 && start < end && size >= 1 && size <= end - start;
    }

    private static boolean isCell(int cell) {
        return cell >= 0 && cell < CELLS;
    }

    private static int cellNumber(int x, int y) {
        if (x < 0 || x >= COLUMNS || y < 0 || y >= ROWS) {
            return NONE;
        }
        return x + COLUMNS * y;
    }

    /** The cell that lies in a direction from a cell, or NONE where the plain ends. */
    private static int neighbour(int cell, int direction) {
        if (cell < 0 || cell >= CELLS) {
            return NONE;
        }
        int x = cell % COLUMNS;
        switch (direction) {
            case 0:
                return cell >= COLUMNS ? cell - COLUMNS : NONE;
            case 1:
                return x < COLUMNS - 1 ? cell + 1 : NONE;
            case 2:
                return cell < CELLS - COLUMNS ? cell + COLUMNS : NONE;
            case 3:
                return x > 0 ? cell - 1 : NONE;
            default:
                return NONE;
        }
    }

    /** The direction of a cell from the one beside it, or NONE if they are not side by side. */
    private static int directionTo(int from, int to) {
        for (int direction = 0; direction < SIDES; direction++) {
            int beside = neighbour(from, direction);
            if (beside != NONE && beside == to) {
                return direction;
            }
        }
        return NONE;
    }

    /** The plain with its river, and how both change in a year. */
    private static final class River {
        private final int[] hardness = new int[CELLS];
        private final int[] wear = new int[CELLS];
        private final boolean[] stones = new boolean[CELLS];
        /** The year from which on a cell is no lake any more: so no year has to count all lakes down. */
        private final int[] lakeEnd = new int[CELLS];
        /** Which cells bulges have taken since the river was made, or copied. */
        private final boolean[] bulgedInto = new boolean[CELLS];
        private final int[] flow = new int[FLOW_YEARS];
        private final int[] course = new int[MOST_COURSE];
        /** At most MOST_COURSE: only a bulge makes it greater, and asks first. */
        private int length;
        private int year;
        private int breaks;

        // These follow from the course alone, and are kept since each year asks for all of them.
        private final int[] place = new int[CELLS];
        private final int[] direction = new int[MOST_COURSE];
        private final int[] thrown = new int[MOST_COURSE];
        private final int[] bank = new int[MOST_COURSE];

        private River() {
            for (int cell = 0; cell < CELLS; cell++) {
                hardness[cell] = FIRST_GRADE;
                place[cell] = NONE;
            }
            for (int number = 0; number < FLOW_YEARS; number++) {
                flow[number] = FIRST_GRADE;
            }
            for (int x = 0; x < COLUMNS; x++) {
                course[x] = x + COLUMNS * FIRST_ROW_OF_RIVER;
            }
            length = COLUMNS;
            followCourse(0);
        }

        private void copyFrom(River other) {
            System.arraycopy(other.hardness, 0, hardness, 0, CELLS);
            System.arraycopy(other.wear, 0, wear, 0, CELLS);
            System.arraycopy(other.stones, 0, stones, 0, CELLS);
            System.arraycopy(other.lakeEnd, 0, lakeEnd, 0, CELLS);
            System.arraycopy(other.flow, 0, flow, 0, FLOW_YEARS);
            System.arraycopy(other.course, 0, course, 0, MOST_COURSE);
            System.arraycopy(other.place, 0, place, 0, CELLS);
            System.arraycopy(other.direction, 0, direction, 0, MOST_COURSE);
            System.arraycopy(other.thrown, 0, thrown, 0, MOST_COURSE);
            System.arraycopy(other.bank, 0, bank, 0, MOST_COURSE);
            length = other.length;
            year = other.year;
            breaks = other.breaks;
            for (int cell = 0; cell < CELLS; cell++) {
                bulgedInto[cell] = false;
            }
        }

        // -- the course

        private boolean isInCourse(int index) {
            return index >= 0 && index < length && index < MOST_COURSE;
        }

        private int cellAt(int index) {
            return isInCourse(index) ? course[index] : NONE;
        }

        private int placeOf(int cell) {
            return isCell(cell) ? place[cell] : NONE;
        }

        private boolean isStraight(int index) {
            return index > 0 && index < length - 1 && isInCourse(index)
                    && direction[index - 1] == direction[index];
        }

        /** Tells anew what follows from the course, of which the cells ahead of a number have not changed. */
        private void followCourse(int from) {
            for (int index = Math.max(0, from); index < length; index++) {
                int cell = course[index];
                if (isCell(cell)) {
                    place[cell] = index;
                }
            }
            for (int index = Math.max(0, from - 1); index < length; index++) {
                direction[index] = directionTo(course[index], cellAt(index + 1));
            }
            throwCells();
        }

        private void throwCells() {
            int bend = NONE;
            for (int index = 0; index < length; index++) {
                thrown[index] = NONE;
                if (index > 0 && direction[index] != direction[index - 1]) {
                    bend = index;
                } else if (bend > 0 && index - bend <= FARTHEST_BEND) {
                    thrown[index] = direction[bend - 1];
                }
                bank[index] = neighbour(course[index], thrown[index]);
            }
        }

        // -- bulges

        private boolean canBulge(int index, int side) {
            if (!isStraight(index) || length + 2 > MOST_COURSE || side < 0 || side >= SIDES) {
                return false;
            }
            boolean isAcross = side % 2 != direction[index] % 2;
            return isAcross && isOpen(neighbour(cellAt(index - 1), side)) && isOpen(neighbour(cellAt(index), side))
                    && isOpen(neighbour(cellAt(index + 1), side));
        }

        private boolean isOpen(int cell) {
            return isCell(cell) && place[cell] == NONE && !stones[cell];
        }

        private void bulge(int index, int side) {
            if (!canBulge(index, side)) {
                return;
            }
            int left = cellAt(index);
            if (isCell(left)) {
                place[left] = NONE;
            }
            int first = neighbour(cellAt(index - 1), side);
            int middle = neighbour(left, side);
            int last = neighbour(cellAt(index + 1), side);
            System.arraycopy(course, index + 1, course, index + 3, length - index - 1);
            length += 2;
            takeIntoCourse(index, first);
            takeIntoCourse(index + 1, middle);
            takeIntoCourse(index + 2, last);
            followCourse(index);
        }

        private void takeIntoCourse(int index, int cell) {
            if (isInCourse(index) && isCell(cell)) {
                course[index] = cell;
                wear[cell] = 0;
                lakeEnd[cell] = 0;
                bulgedInto[cell] = true;
            }
        }

        // -- necks

        private boolean isNeck(int i, int j) {
            return isInCourse(i) && isInCourse(j) && j - i >= NECK_APART
                    && directionTo(course[i], course[j]) != NONE;
        }

        private int necks() {
            int found = 0;
            for (int i = 0; i < length; i++) {
                for (int side = 0; side < SIDES; side++) {
                    if (placeOf(neighbour(course[i], side)) - i >= NECK_APART) {
                        found++;
                    }
                }
            }
            return found;
        }

        /** The greatest j that makes a neck with i, or NONE. */
        private int farthestAcross(int i) {
            int farthest = NONE;
            for (int side = 0; side < SIDES; side++) {
                int j = placeOf(neighbour(cellAt(i), side));
                if (j - i >= NECK_APART && j > farthest) {
                    farthest = j;
                }
            }
            return farthest;
        }

        /** The i of the neck through which a flood breaks first, or NONE. */
        private int widestNeck() {
            int widest = NONE;
            int most = 0;
            for (int i = 0; i < length; i++) {
                int apart = farthestAcross(i) - i;
                if (apart > most) {
                    most = apart;
                    widest = i;
                }
            }
            return widest;
        }

        private void breakThrough(int i, int j) {
            if (!isNeck(i, j)) {
                return;
            }
            for (int index = i + 1; index < j; index++) {
                int cell = cellAt(index);
                if (isCell(cell)) {
                    place[cell] = NONE;
                    lakeEnd[cell] = year + LAKE_YEARS;
                }
            }
            System.arraycopy(course, j, course, i + 1, length - j);
            length -= j - i - 1;
            breaks++;
            followCourse(i + 1);
        }

        // -- a year

        /** Tells how many bulges there were. */
        private int letPass(int years) {
            int bulges = 0;
            for (int passed = 0; passed < years; passed++) {
                int flowNow = flow[Math.floorMod(year, FLOW_YEARS)];
                wearBanks(flowNow);
                if (bulgeWhereRipest()) {
                    bulges++;
                }
                if (flowNow >= FLOOD_FLOW) {
                    flood();
                }
                year++;
            }
            return bulges;
        }

        private void wearBanks(int flowNow) {
            for (int index = 0; index < length; index++) {
                int worn = bank[index];
                if (isOpen(worn)) {
                    wear[worn] += flowNow;
                }
            }
        }

        private boolean bulgeWhereRipest() {
            int ripest = NONE;
            int most = NONE;
            for (int index = 0; index < length; index++) {
                int worn = bank[index];
                if (isCell(worn)) {
                    int over = wear[worn] - WEAR_PER_HARDNESS * hardness[worn];
                    if (over >= 0 && over > most && canBulge(index, thrown[index])) {
                        most = over;
                        ripest = index;
                    }
                }
            }
            if (ripest == NONE) {
                return false;
            }
            bulge(ripest, thrown[ripest]);
            return true;
        }

        /** Each break takes cells out of the course: so there are never as many as it can have cells. */
        private void flood() {
            for (int done = 0; done < MOST_COURSE; done++) {
                int i = widestNeck();
                if (i == NONE) {
                    return;
                }
                breakThrough(i, farthestAcross(i));
            }
        }

        // -- counts

        private int lakeYearsLeft(int cell) {
            return isCell(cell) ? Math.max(0, lakeEnd[cell] - year) : 0;
        }

        private int lakes() {
            int found = 0;
            for (int cell = 0; cell < CELLS; cell++) {
                if (lakeEnd[cell] > year) {
                    found++;
                }
            }
            return found;
        }

        private int cellsWithStones() {
            int found = 0;
            for (int cell = 0; cell < CELLS; cell++) {
                if (stones[cell]) {
                    found++;
                }
            }
            return found;
        }

        private int bends() {
            int found = 0;
            for (int index = 1; index < length - 1; index++) {
                if (!isStraight(index)) {
                    found++;
                }
            }
            return found;
        }

        private int allWear() {
            int sum = 0;
            for (int cell = 0; cell < CELLS; cell++) {
                sum += wear[cell];
            }
            return sum;
        }

        /** Goes on with a checksum: the table of the flow, the course and the cells of the plain. */
        private long digestFrom(long start) {
            long d = start;
            for (int number = 0; number < FLOW_YEARS; number++) {
                d = d * DIGEST_FACTOR + flow[number];
            }
            for (int index = 0; index < length; index++) {
                d = d * DIGEST_FACTOR + course[index];
            }
            for (int cell = 0; cell < CELLS; cell++) {
                d = d * DIGEST_FACTOR + hardness[cell];
                d = d * DIGEST_FACTOR + wear[cell];
                d = d * DIGEST_FACTOR + (stones[cell] ? 1 : 0);
                d = d * DIGEST_FACTOR + lakeYearsLeft(cell);
            }
            return d;
        }
    }

    /** The rectangles of the farms, in the order in which they were told. */
    private static final class Farms {
        private final int[] column = new int[MOST_FARMS];
        private final int[] row = new int[MOST_FARMS];
        private final int[] wide = new int[MOST_FARMS];
        private final int[] deep = new int[MOST_FARMS];
        /** At most MOST_FARMS: what would be one more is refused. */
        private int size;

        private boolean isFarm(int farm) {
            return farm >= 0 && farm < size && farm < MOST_FARMS;
        }

        private int append(int x, int y, int columns, int rows) {
            int farm = size;
            if (farm < 0 || farm >= MOST_FARMS) {
                return NONE;
            }
            column[farm] = x;
            row[farm] = y;
            wide[farm] = columns;
            deep[farm] = rows;
            size++;
            return farm;
        }

        /** The farms of whose rectangles a cell is, as the sum of the powers of 2. */
        private int farmsAt(int x, int y) {
            int powers = 0;
            for (int farm = 0; farm < size; farm++) {
                if (x >= column[farm] && x < column[farm] + wide[farm]
                        && y >= row[farm] && y < row[farm] + deep[farm]) {
                    powers |= 1 << farm;
                }
            }
            return powers;
        }

        /** Counts those cells of a farm of which the call farm() tells by this number. */
        private int cellsOf(int farm, int what, River river) {
            if (!isFarm(farm)) {
                return 0;
            }
            int found = 0;
            for (int y = row[farm]; y < row[farm] + deep[farm]; y++) {
                for (int x = column[farm]; x < column[farm] + wide[farm]; x++) {
                    if (isCounted(cellNumber(x, y), what, river)) {
                        found++;
                    }
                }
            }
            return found;
        }

        private static boolean isCounted(int cell, int what, River river) {
            if (!isCell(cell) || river == null) {
                return false;
            }
            boolean isRiver = river.place[cell] != NONE;
            boolean isLake = river.lakeYearsLeft(cell) > 0;
            switch (what) {
                case 0:
                    return true;
                case 1:
                    return !isRiver && !isLake;
                case 2:
                    return isRiver;
                case 3:
                    return isLake;
                default:
                    return river.stones[cell];
            }
        }
    }
}
