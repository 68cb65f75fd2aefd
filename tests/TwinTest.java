import java.util.ArrayList;
import java.util.List;
import java.util.Random;

/**
 * Plays the same runs of calls, of fixed seeds, on the class and on a twin that keeps to the document's words
 * without any thought of speed, and compares each answer, each exception and the digest behind each call.
 */
public final class TwinTest {
    private static final int RUNS = 400;
    /** Each is followed by a digest, and an object is good for 512 calls. */
    private static final int CALLS = 255;
    private static final String[] CALL_NAMES = {"setHardness", "setStones", "setFlow", "cell", "course", "slip", "dig",
        "neck", "addFarm", "farm", "pass", "count", "foresee", "loses", "advise", "winding"};
    private static final int[] SHARES = {6, 4, 5, 9, 9, 14, 6, 6, 3, 6, 10, 6, 3, 2, 1, 1};
    private static final int[] ODD_NUMBERS = {Integer.MIN_VALUE, Integer.MAX_VALUE, -1, 512, -24, Integer.MAX_VALUE - 5};

    private final Random random;
    private final MeanderFarm farm = new MeanderFarm();
    private final Twin twin = new Twin();
    private final StringBuilder told = new StringBuilder();
    private final int[] seen;

    private TwinTest(long seed, int[] seen) {
        random = new Random(seed);
        this.seen = seen;
    }

    public static void main(String[] args) {
        int wrong = 0;
        int[] seen = new int[CALL_NAMES.length * 2 + 4];
        for (int run = 0; run < RUNS; run++) {
            TwinTest test = new TwinTest(run, seen);
            if (!test.play(run % 4)) {
                System.out.println("seed " + run + ":" + test.told);
                wrong++;
            }
        }
        for (int call = 0; call < CALL_NAMES.length; call++) {
            boolean throwsAny = !CALL_NAMES[call].equals("winding");
            if (seen[call * 2] == 0 || throwsAny && seen[call * 2 + 1] == 0) {
                System.out.println("the runs do not show " + CALL_NAMES[call] + " both answering and throwing");
                wrong++;
            }
        }
        for (int k = 0; k < 4; k++) {
            if (seen[CALL_NAMES.length * 2 + k] == 0) {
                System.out.println("the runs do not reach the state " + k);
                wrong++;
            }
        }
        System.out.println(wrong == 0 ? "the twin agrees" : wrong + " wrong");
        if (wrong != 0) {
            System.exit(1);
        }
    }

    private boolean play(int mood) {
        for (int number = 0; number < CALLS; number++) {
            int call = pickCall(mood);
            int[] given = arguments(call);
            String due = answer(call, given, true);
            String got = answer(call, given, false);
            told.append("\n  ").append(CALL_NAMES[call]);
            for (int one : given) {
                told.append(' ').append(one);
            }
            told.append(": ").append(got);
            long dueDigest = twin.digest();
            long gotDigest = farm.digest();
            seen[call * 2 + (due.startsWith("throws") ? 1 : 0)]++;
            seeState(call, due);
            if (!due.equals(got) || dueDigest != gotDigest) {
                told.append(", due is ").append(due);
                told.append("; digest ").append(gotDigest).append(", due is ").append(dueDigest);
                return false;
            }
        }
        return true;
    }

    /** The states that a run must reach for the comparison to be worth something. */
    private void seeState(int call, String due) {
        int from = CALL_NAMES.length * 2;
        if (twin.course.size() == 150) {
            seen[from]++;
        }
        if (twin.count(2) > 0) {
            seen[from + 1]++;
        }
        if (twin.neck(0) > 5) {
            seen[from + 2]++;
        }
        if (call == 14 && !due.startsWith("throws") && !due.equals("-1")) {
            seen[from + 3]++;
        }
    }

    private int pickCall(int mood) {
        if (mood == 1 && random.nextInt(3) > 0) {
            return 5;
        }
        if (mood == 2 && random.nextInt(4) == 0) {
            return 6;
        }
        if (mood == 3 && random.nextInt(5) == 0) {
            return 10;
        }
        int left = 0;
        for (int share : SHARES) {
            left += share;
        }
        left = random.nextInt(left);
        for (int call = 0; call < SHARES.length; call++) {
            left -= SHARES[call];
            if (left < 0) {
                return call;
            }
        }
        return 0;
    }

    private int near(int from, int to) {
        if (random.nextInt(60) == 0) {
            return ODD_NUMBERS[random.nextInt(ODD_NUMBERS.length)];
        }
        if (random.nextInt(30) == 0) {
            return random.nextBoolean() ? from - 1 : to + 1;
        }
        return from + random.nextInt(to - from + 1);
    }

    private int[] arguments(int call) {
        int last = twin.course.size() - 1;
        switch (CALL_NAMES[call]) {
            case "setHardness":
                return new int[] {near(0, 23), near(0, 15), near(1, 9)};
            case "setStones":
                return new int[] {near(0, 23), near(0, 15), random.nextInt(2)};
            case "setFlow":
                return new int[] {near(0, 11), near(1, 9)};
            case "cell":
                return new int[] {near(0, 23), near(0, 15), near(0, 5)};
            case "course":
                return new int[] {near(0, last), near(0, 4)};
            case "slip":
                return new int[] {near(0, last), near(0, 3)};
            case "dig":
                return digArguments(last);
            case "neck":
                return new int[] {near(0, 3)};
            case "addFarm":
                return new int[] {near(0, 23), near(0, 15), near(1, 8), near(1, 8)};
            case "farm":
                return new int[] {near(0, 5), near(0, 4)};
            case "pass":
                return new int[] {random.nextInt(3) == 0 ? near(1, 100) : near(1, 12)};
            case "count":
                return new int[] {near(0, 7)};
            case "foresee":
                return new int[] {near(1, 100), near(0, 2)};
            case "loses":
                return new int[] {near(0, 5)};
            case "advise":
                return new int[] {near(0, 5), near(1, 30)};
            default:
                return new int[0];
        }
    }

    private int[] digArguments(int last) {
        List<int[]> necks = twin.necks();
        if (!necks.isEmpty() && random.nextInt(4) > 0) {
            return necks.get(random.nextInt(necks.size()));
        }
        int i = near(0, last);
        return new int[] {i, random.nextBoolean() ? near(0, last) : i + random.nextInt(5)};
    }

    private String answer(int call, int[] g, boolean ofTwin) {
        try {
            switch (CALL_NAMES[call]) {
                case "setHardness":
                    return "" + (ofTwin ? twin.setHardness(g[0], g[1], g[2]) : farm.setHardness(g[0], g[1], g[2]));
                case "setStones":
                    return "" + (ofTwin ? twin.setStones(g[0], g[1], g[2] == 1) : farm.setStones(g[0], g[1], g[2] == 1));
                case "setFlow":
                    return "" + (ofTwin ? twin.setFlow(g[0], g[1]) : farm.setFlow(g[0], g[1]));
                case "cell":
                    return "" + (ofTwin ? twin.cell(g[0], g[1], g[2]) : farm.cell(g[0], g[1], g[2]));
                case "course":
                    return "" + (ofTwin ? twin.course(g[0], g[1]) : farm.course(g[0], g[1]));
                case "slip":
                    return "" + (ofTwin ? twin.slip(g[0], g[1]) : farm.slip(g[0], g[1]));
                case "dig":
                    return "" + (ofTwin ? twin.dig(g[0], g[1]) : farm.dig(g[0], g[1]));
                case "neck":
                    return "" + (ofTwin ? twin.neck(g[0]) : farm.neck(g[0]));
                case "addFarm":
                    return "" + (ofTwin ? twin.addFarm(g[0], g[1], g[2], g[3]) : farm.addFarm(g[0], g[1], g[2], g[3]));
                case "farm":
                    return "" + (ofTwin ? twin.farm(g[0], g[1]) : farm.farm(g[0], g[1]));
                case "pass":
                    return "" + (ofTwin ? twin.pass(g[0]) : farm.pass(g[0]));
                case "count":
                    return "" + (ofTwin ? twin.count(g[0]) : farm.count(g[0]));
                case "foresee":
                    return "" + (ofTwin ? twin.foresee(g[0], g[1]) : farm.foresee(g[0], g[1]));
                case "loses":
                    return "" + (ofTwin ? twin.loses(g[0]) : farm.loses(g[0]));
                case "advise":
                    return "" + (ofTwin ? twin.advise(g[0], g[1]) : farm.advise(g[0], g[1]));
                default:
                    return "" + (ofTwin ? twin.course.size() / 24.0 : farm.winding());
            }
        } catch (RuntimeException e) {
            return "throws " + e.getClass().getName();
        }
    }

    /** The document's words, one by one. A course is a list of cells; nothing that follows from it is kept. */
    private static final class Twin {
        private final int[] hardness = new int[384];
        private final int[] wear = new int[384];
        private final boolean[] stones = new boolean[384];
        private final int[] lake = new int[384];
        private final int[] flow = new int[12];
        private final List<Integer> course = new ArrayList<>();
        private final List<int[]> farms = new ArrayList<>();
        private int year = 0;
        private int breaks = 0;
        private int bulges = 0;

        Twin() {
            java.util.Arrays.fill(hardness, 3);
            java.util.Arrays.fill(flow, 3);
            for (int x = 0; x < 24; x++) {
                course.add(x + 24 * 8);
            }
        }

        Twin copy() {
            Twin other = new Twin();
            System.arraycopy(hardness, 0, other.hardness, 0, 384);
            System.arraycopy(wear, 0, other.wear, 0, 384);
            System.arraycopy(stones, 0, other.stones, 0, 384);
            System.arraycopy(lake, 0, other.lake, 0, 384);
            System.arraycopy(flow, 0, other.flow, 0, 12);
            other.course.clear();
            other.course.addAll(course);
            other.farms.addAll(farms);
            other.year = year;
            other.breaks = breaks;
            other.bulges = bulges;
            return other;
        }

        static void index(boolean holds) {
            if (!holds) {
                throw new IndexOutOfBoundsException();
            }
        }

        static void argument(boolean holds) {
            if (!holds) {
                throw new IllegalArgumentException();
            }
        }

        static void state(boolean holds) {
            if (!holds) {
                throw new IllegalStateException();
            }
        }

        static boolean within(int n, int from, int to) {
            return n >= from && n <= to;
        }

        static int beside(int cell, int direction) {
            int x = cell % 24 + (direction == 1 ? 1 : direction == 3 ? -1 : 0);
            int y = cell / 24 + (direction == 2 ? 1 : direction == 0 ? -1 : 0);
            return within(x, 0, 23) && within(y, 0, 15) ? x + 24 * y : -1;
        }

        int setHardness(int x, int y, int to) {
            index(within(x, 0, 23) && within(y, 0, 15));
            argument(within(to, 1, 9));
            int before = hardness[x + 24 * y];
            hardness[x + 24 * y] = to;
            return before;
        }

        int setStones(int x, int y, boolean has) {
            index(within(x, 0, 23) && within(y, 0, 15));
            stones[x + 24 * y] = has;
            return count(5);
        }

        int setFlow(int number, int to) {
            index(within(number, 0, 11));
            argument(within(to, 1, 9));
            int before = flow[number];
            flow[number] = to;
            return before;
        }

        int cell(int x, int y, int what) {
            index(within(x, 0, 23) && within(y, 0, 15) && within(what, 0, 5));
            int cell = x + 24 * y;
            int powers = 0;
            for (int f = 0; f < farms.size(); f++) {
                if (farmCells(f).contains(cell)) {
                    powers += (int) Math.round(Math.pow(2, f));
                }
            }
            int[] all = {hardness[cell], wear[cell], stones[cell] ? 1 : 0, course.indexOf(cell), lake[cell], powers};
            return all[what];
        }

        int direction(int i) {
            if (i == course.size() - 1) {
                return -1;
            }
            for (int d = 0; d < 4; d++) {
                if (beside(course.get(i), d) == course.get(i + 1)) {
                    return d;
                }
            }
            throw new AssertionError("the course is torn at " + i);
        }

        boolean straight(int i) {
            return i != 0 && i != course.size() - 1 && direction(i - 1) == direction(i);
        }

        int thrown(int i) {
            if (!straight(i)) {
                return -1;
            }
            for (int j = i - 1; j >= 1; j--) {
                if (direction(j) != direction(j - 1)) {
                    return i - j <= 4 ? direction(j - 1) : -1;
                }
            }
            return -1;
        }

        int bank(int i) {
            return thrown(i) == -1 ? -1 : beside(course.get(i), thrown(i));
        }

        int course(int i, int what) {
            index(within(i, 0, course.size() - 1) && within(what, 0, 4));
            int[] all = {course.get(i), direction(i), straight(i) ? 1 : 0, thrown(i), bank(i)};
            return all[what];
        }

        boolean bulgeCanBe(int i, int side) {
            if (!straight(i) || side == direction(i) || side == (direction(i) + 2) % 4 || course.size() + 2 > 150) {
                return false;
            }
            for (int k = i - 1; k <= i + 1; k++) {
                int cell = beside(course.get(k), side);
                if (cell == -1 || course.contains(cell) || stones[cell]) {
                    return false;
                }
            }
            return true;
        }

        void makeBulge(int i, int side) {
            List<Integer> three = new ArrayList<>();
            for (int k = i - 1; k <= i + 1; k++) {
                int cell = beside(course.get(k), side);
                three.add(cell);
                wear[cell] = 0;
                lake[cell] = 0;
            }
            course.remove(i);
            course.addAll(i, three);
        }

        int slip(int i, int side) {
            index(within(i, 0, course.size() - 1));
            argument(within(side, 0, 3));
            state(bulgeCanBe(i, side));
            makeBulge(i, side);
            return course.size();
        }

        boolean isNeck(int i, int j) {
            if (j < i + 3L) {
                return false;
            }
            int a = course.get(i);
            int b = course.get(j);
            return Math.abs(a % 24 - b % 24) + Math.abs(a / 24 - b / 24) == 1;
        }

        /** The one through which a flood would break first stands first. */
        List<int[]> necks() {
            List<int[]> all = new ArrayList<>();
            for (int i = 0; i < course.size(); i++) {
                for (int j = 0; j < course.size(); j++) {
                    if (isNeck(i, j)) {
                        all.add(new int[] {i, j});
                    }
                }
            }
            all.sort((a, b) -> a[1] - a[0] != b[1] - b[0] ? (b[1] - b[0]) - (a[1] - a[0]) : a[0] - b[0]);
            return all;
        }

        void makeBreak(int i, int j) {
            for (int k = i + 1; k < j; k++) {
                lake[course.get(i + 1)] = 10;
                course.remove(i + 1);
            }
            breaks++;
        }

        void makeFlood() {
            while (!necks().isEmpty()) {
                int[] first = necks().get(0);
                makeBreak(first[0], first[1]);
            }
        }

        int dig(int i, int j) {
            index(within(i, 0, course.size() - 1) && within(j, 0, course.size() - 1));
            state(isNeck(i, j));
            makeBreak(i, j);
            return course.size();
        }

        int neck(int what) {
            index(within(what, 0, 3));
            List<int[]> all = necks();
            if (what == 0) {
                return all.size();
            }
            if (what < 3) {
                return all.isEmpty() ? -1 : all.get(0)[what - 1];
            }
            Twin then = copy();
            then.makeFlood();
            return course.size() - then.course.size();
        }

        int addFarm(int x, int y, int wide, int deep) {
            argument(wide >= 1 && deep >= 1 && x >= 0 && y >= 0 && (long) x + wide <= 24 && (long) y + deep <= 16);
            state(farms.size() < 6);
            farms.add(new int[] {x, y, wide, deep});
            return farms.size() - 1;
        }

        List<Integer> farmCells(int f) {
            int[] r = farms.get(f);
            List<Integer> cells = new ArrayList<>();
            for (int cell = 0; cell < 384; cell++) {
                if (within(cell % 24, r[0], r[0] + r[2] - 1) && within(cell / 24, r[1], r[1] + r[3] - 1)) {
                    cells.add(cell);
                }
            }
            return cells;
        }

        int farm(int f, int what) {
            index(within(f, 0, farms.size() - 1) && within(what, 0, 4));
            int[] all = new int[5];
            for (int cell : farmCells(f)) {
                all[0]++;
                all[1] += !course.contains(cell) && lake[cell] == 0 ? 1 : 0;
                all[2] += course.contains(cell) ? 1 : 0;
                all[3] += lake[cell] > 0 ? 1 : 0;
                all[4] += stones[cell] ? 1 : 0;
            }
            return all[what];
        }

        void makeYear() {
            int now = flow[year % 12];
            for (int i = 0; i < course.size(); i++) {
                int bank = bank(i);
                if (bank != -1 && !course.contains(bank) && !stones[bank]) {
                    wear[bank] += now;
                }
            }
            int chosen = -1;
            for (int i = 0; i < course.size(); i++) {
                int bank = bank(i);
                if (bank == -1 || wear[bank] < 10 * hardness[bank] || !bulgeCanBe(i, thrown(i))) {
                    continue;
                }
                if (chosen == -1
                        || wear[bank] - 10 * hardness[bank] > wear[bank(chosen)] - 10 * hardness[bank(chosen)]) {
                    chosen = i;
                }
            }
            if (chosen != -1) {
                makeBulge(chosen, thrown(chosen));
                bulges++;
            }
            if (now >= 7) {
                makeFlood();
            }
            for (int cell = 0; cell < 384; cell++) {
                lake[cell] -= lake[cell] > 0 ? 1 : 0;
            }
            year++;
        }

        int pass(int years) {
            argument(within(years, 1, 100));
            int before = bulges;
            for (int k = 0; k < years; k++) {
                makeYear();
            }
            return bulges - before;
        }

        int count(int what) {
            index(within(what, 0, 7));
            int[] all = {year, course.size(), 0, breaks, farms.size(), 0, 0, 0};
            for (int cell = 0; cell < 384; cell++) {
                all[2] += lake[cell] > 0 ? 1 : 0;
                all[5] += stones[cell] ? 1 : 0;
                all[7] += wear[cell];
            }
            for (int i = 1; i < course.size() - 1; i++) {
                all[6] += direction(i) != direction(i - 1) ? 1 : 0;
            }
            return all[what];
        }

        int foresee(int years, int what) {
            argument(within(years, 1, 100));
            index(within(what, 0, 2));
            Twin then = copy();
            then.pass(years);
            return what == 0 ? then.course.size() : what == 1 ? then.breaks - breaks : then.bulges - bulges;
        }

        int loses(int f) {
            index(within(f, 0, farms.size() - 1));
            Twin then = copy();
            for (int years = 1; years <= 60; years++) {
                then.makeYear();
                if (then.farm(f, 1) < farm(f, 1)) {
                    return years;
                }
            }
            return -1;
        }

        int advise(int f, int years) {
            index(within(f, 0, farms.size() - 1));
            argument(within(years, 1, 30));
            Twin without = copy();
            without.pass(years);
            int most = without.farm(f, 1);
            int best = -1;
            for (int cell = 0; cell < 384; cell++) {
                if (wear[cell] == 0 || stones[cell]) {
                    continue;
                }
                Twin with = copy();
                with.stones[cell] = true;
                with.pass(years);
                if (with.farm(f, 1) > most) {
                    most = with.farm(f, 1);
                    best = cell;
                }
            }
            return best;
        }

        long digest() {
            List<Integer> all = new ArrayList<>();
            for (int what = 0; what < 8; what++) {
                all.add(count(what));
            }
            for (int one : flow) {
                all.add(one);
            }
            all.addAll(course);
            for (int cell = 0; cell < 384; cell++) {
                all.add(hardness[cell]);
                all.add(wear[cell]);
                all.add(stones[cell] ? 1 : 0);
                all.add(lake[cell]);
            }
            for (int f = 0; f < farms.size(); f++) {
                for (int what = 0; what < 5; what++) {
                    all.add(farm(f, what));
                }
            }
            long d = 599;
            for (int x : all) {
                d = d * 31 + x;
            }
            return d;
        }
    }
}
