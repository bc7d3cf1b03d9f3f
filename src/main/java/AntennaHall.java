/** An antenna hall; the promises it keeps are numbered in the project's document. */
public final class AntennaHall {
    public static final int NONE = -1, UNKNOWN = -101, OUTSIDE = -102, STATE = -103, FULL = -104;

    // Calls whose plain answers reach down to -104 refuse with numbers far below any answer of theirs.
    private static final int SMALL_UNKNOWN = -10101, SMALL_OUTSIDE = -10102;
    private static final int MIDDLE_UNKNOWN = -1000001, MIDDLE_STATE = -1000003;
    private static final int LARGE_UNKNOWN = -10000001, LARGE_OUTSIDE = -10000002;
    private static final long MEND_UNKNOWN = -9000000000000000001L;
    private static final long MEND_OUTSIDE = -9000000000000000002L;
    private static final long MEND_STATE = -9000000000000000003L;

    private static final int MOST_PLACES = 32;
    private static final int MOST_GATE = 31;
    private static final int MOST_LOST = 5;
    private static final int MOST_NEAR = 1000;
    private static final int MOST_TOLD = 1000000;
    private static final int MOST_PROBE = 9;
    private static final int MOST_LIMIT = 100000;
    private static final int MOST_SIDE = 8;
    private static final int MOST_CELL = 1000;
    private static final int MOST_ANTENNAS = 5;
    private static final int MOST_TOGETHER = 10000;
    private static final int MOST_DOUBTS = 18;
    private static final int MOST_DOUBT = 10000;

    private static final int NO_MEND = 0, ONE_MEND = 1, MANY_MENDS = 2;

    private final Net places;
    private final Mender mender;
    private final Sheet drift;
    private final Pairs pairs;
    private final Doubts doubts;

    public AntennaHall() {
        places = new Net();
        mender = new Mender();
        drift = new Sheet();
        pairs = new Pairs();
        doubts = new Doubts();
    }

    // ---- the net

    public int net(int k) {
        if (isOutside(k, 1, 5)) {
            return OUTSIDE;
        }
        places.startAnew(1 << k);
        return places.n;
    }

    public int near(int i, int v) {
        if (!places.has(i)) {
            return SMALL_UNKNOWN;
        }
        if (isOutside(v, -MOST_NEAR, MOST_NEAR)) {
            return SMALL_OUTSIDE;
        }
        int was = places.near[i];
        places.setNear(i, v);
        return was;
    }

    public int far(int j) {
        return places.has(j) ? places.far[j] : MIDDLE_UNKNOWN;
    }

    public int back() {
        return places.takeBack() ? 1 : 0;
    }

    public int tell(int j, int v) {
        if (!places.has(j)) {
            return LARGE_UNKNOWN;
        }
        if (isOutside(v, -MOST_TOLD, MOST_TOLD)) {
            return LARGE_OUTSIDE;
        }
        int was = places.row[j];
        places.row[j] = v;
        return was;
    }

    public int probe(int j, int v) {
        if (!places.has(j)) {
            return UNKNOWN;
        }
        if (v == 0 || isOutside(v, -MOST_PROBE, MOST_PROBE)) {
            return OUTSIDE;
        }
        int was = places.probes[j];
        places.probes[j] = v;
        return was;
    }

    public int seen(int j) {
        return places.has(j) ? places.far[j] * places.probes[j] : LARGE_UNKNOWN;
    }

    public int unprobe() {
        return places.takeProbeOff() ? 1 : 0;
    }

    public int gated(int i, int m, int v) {
        if (!places.has(i)) {
            return LARGE_UNKNOWN;
        }
        if (!isGate(m, v)) {
            return LARGE_OUTSIDE;
        }
        return places.sumThrough(i, m, v);
    }

    public long power(int m, int v) {
        return isGate(m, v) ? places.squaresThrough(m, v) : OUTSIDE;
    }

    // ---- lost samples

    public int lose(int i, boolean is) {
        if (!places.has(i)) {
            return UNKNOWN;
        }
        boolean was = places.lost[i];
        if (is && !was && places.countLost() >= MOST_LOST) {
            return FULL;
        }
        places.lost[i] = is;
        return was ? 1 : 0;
    }

    public int mends(int m, int v) {
        return isGate(m, v) ? mender.solve(places, m, v) : OUTSIDE;
    }

    public long mend(int i, int m, int v, int part) {
        if (!places.has(i) || !places.lost[i]) {
            return MEND_UNKNOWN;
        }
        if (!isGate(m, v) || isOutside(part, 0, 1)) {
            return MEND_OUTSIDE;
        }
        if (mender.solve(places, m, v) != ONE_MEND) {
            return MEND_STATE;
        }
        return mender.partOf(i, part);
    }

    // ---- drift

    public int sheet(int r, int c) {
        if (isOutside(r, 2, MOST_SIDE) || isOutside(c, 1, MOST_SIDE)) {
            return OUTSIDE;
        }
        drift.startAnew(r, c);
        return r * c;
    }

    public int cell(int r, int c, int v) {
        if (!drift.holds(r, c)) {
            return SMALL_UNKNOWN;
        }
        if (isOutside(v, -MOST_CELL, MOST_CELL)) {
            return SMALL_OUTSIDE;
        }
        int was = drift.cells[r][c];
        drift.cells[r][c] = v;
        return was;
    }

    public int closed(int r, int c) {
        if (isOutside(r, 0, drift.rows) || isOutside(c, 0, drift.columns - 1)) {
            return SMALL_UNKNOWN;
        }
        return drift.closedCell(r, c);
    }

    public int tied(int r, int c) {
        if (isOutside(r, 0, drift.rows - 1) || isOutside(c, 0, drift.columns - 1)) {
            return SMALL_UNKNOWN;
        }
        return drift.tiedCell(r, c);
    }

    // ---- gains

    public int antennas(int m) {
        if (isOutside(m, 3, MOST_ANTENNAS)) {
            return OUTSIDE;
        }
        pairs.startAnew(m);
        return m;
    }

    public int together(int a, int b, int v, boolean is) {
        if (!pairs.has(a) || !pairs.has(b) || a == b) {
            return UNKNOWN;
        }
        if (isOutside(v, -MOST_TOGETHER, MOST_TOGETHER)) {
            return OUTSIDE;
        }
        int was = pairs.known[a][b];
        pairs.put(a, b, v, is);
        return was;
    }

    public int gain(int a) {
        return pairs.has(a) ? pairs.firstGain(a) : MIDDLE_UNKNOWN;
    }

    public int loose() {
        int most = NONE;
        for (int a = 0; a < pairs.m; a++) {
            most = Math.max(most, pairs.spread(a));
        }
        return most;
    }

    // ---- faults

    public int measure(int j, int v, boolean is) {
        if (!places.has(j)) {
            return UNKNOWN;
        }
        if (isOutside(v, -MOST_TOLD, MOST_TOLD)) {
            return OUTSIDE;
        }
        boolean was = places.isMeasured[j];
        places.isMeasured[j] = is;
        places.measured[j] = is ? v : 0;
        return was ? 1 : 0;
    }

    public int faults() {
        return places.isAnythingOff() ? places.countFaults() : NONE;
    }

    public int fault(int k) {
        return places.elementOfFault(k);
    }

    public int by(int k) {
        int element = places.elementOfFault(k);
        return element == NONE ? 0 : places.faultOf(element);
    }

    // ---- limits, budgets

    public int limit(int j, int v) {
        if (!places.has(j)) {
            return UNKNOWN;
        }
        if (isOutside(v, 0, MOST_LIMIT)) {
            return OUTSIDE;
        }
        int was = places.limits[j];
        places.limits[j] = v;
        return was;
    }

    public int broken() {
        for (int j = 0; j < places.n; j++) {
            if (Math.abs(places.far[j]) > places.limits[j]) {
                return j;
            }
        }
        return NONE;
    }

    public int doubt(int v) {
        if (isOutside(v, 0, MOST_DOUBT)) {
            return OUTSIDE;
        }
        if (doubts.count >= MOST_DOUBTS) {
            return FULL;
        }
        doubts.add(v);
        return doubts.count;
    }

    public int budget(int what) {
        switch (what) {
            case 0:
                return doubts.sum();
            case 1:
                return rootUp(doubts.squares());
            case 2:
                return doubts.greatest();
            default:
                return OUTSIDE;
        }
    }

    public int sure() {
        int were = doubts.count;
        doubts.count = 0;
        return were;
    }

    // ---- what is told

    public int count(int what) {
        switch (what) {
            case 0:
                return places.n;
            case 1:
                return places.countLost();
            case 2:
                return places.countMeasured();
            case 3:
                return drift.rows;
            case 4:
                return drift.columns;
            case 5:
                return pairs.m;
            case 6:
                return pairs.countKnown();
            case 7:
                return doubts.count;
            default:
                return OUTSIDE;
        }
    }

    public long digest() {
        long h = places.foldInto(191L);
        h = drift.foldInto(h);
        h = pairs.foldInto(h);
        return doubts.foldInto(h);
    }

    // ---- what all parts use

    private static boolean isOutside(int v, int least, int most) {
        return v < least || v > most;
    }

    private static boolean isGate(int m, int v) {
        return !isOutside(m, 0, MOST_GATE) && !isOutside(v, 0, MOST_GATE);
    }

    private static boolean passes(int j, int m, int v) {
        return ((j ^ v) & m) == 0;
    }

    private static int signOf(int i, int j) {
        return (Integer.bitCount(i & j) & 1) == 0 ? 1 : -1;
    }

    private static long fold(long h, long number) {
        return 31L * h + number;
    }

    private static long foldIfKnown(long h, boolean known, int number) {
        return known ? fold(fold(h, 1), number) : fold(h, 0);
    }

    /** The least whole number whose square is not below square (0 to 17179869184). */
    private static int rootUp(long square) {
        if (square <= 0) {
            return 0;
        }
        long below = 0;
        for (int bit = 16; bit >= 0; bit--) {
            long next = below + (1L << bit);
            if (next * next < square) {
                below = next;
            }
        }
        return (int) (below + 1);
    }

    /** The net's places and all that is held for each of them. */
    private static final class Net {
        int n;
        final int[] near = new int[MOST_PLACES];
        // Kept beside NEAR, so that no call has to sum over all places for each far one.
        final int[] far = new int[MOST_PLACES];
        final int[] probes = new int[MOST_PLACES];
        final int[] row = new int[MOST_PLACES];
        final int[] measured = new int[MOST_PLACES];
        final int[] limits = new int[MOST_PLACES];
        final boolean[] lost = new boolean[MOST_PLACES];
        final boolean[] isMeasured = new boolean[MOST_PLACES];

        Net() {
            startAnew(2);
        }

        void startAnew(int size) {
            n = size;
            for (int i = 0; i < MOST_PLACES; i++) {
                near[i] = 0;
                far[i] = 0;
                probes[i] = 1;
                row[i] = 0;
                measured[i] = 0;
                limits[i] = MOST_LIMIT;
                lost[i] = false;
                isMeasured[i] = false;
            }
        }

        boolean has(int i) {
            return i >= 0 && i < n;
        }

        void setNear(int i, int v) {
            int more = v - near[i];
            near[i] = v;
            for (int j = 0; j < n; j++) {
                far[j] += more * signOf(i, j);
            }
        }

        private int rowThroughTo(int i) {
            int sum = 0;
            for (int j = 0; j < n; j++) {
                sum += row[j] * signOf(i, j);
            }
            return sum;
        }

        private boolean goesBack() {
            for (int i = 0; i < n; i++) {
                int sum = rowThroughTo(i);
                // n is a power of two, so its multiples end in as many binary zeros.
                if ((sum & (n - 1)) != 0 || Math.abs(sum) > MOST_NEAR * n) {
                    return false;
                }
            }
            return true;
        }

        boolean takeBack() {
            if (n < 1 || !goesBack()) {
                return false;
            }
            for (int i = 0; i < n; i++) {
                setNear(i, rowThroughTo(i) / n);
            }
            return true;
        }

        private boolean isWholeWithoutProbe() {
            for (int j = 0; j < n; j++) {
                if (probes[j] == 0 || row[j] % probes[j] != 0) {
                    return false;
                }
            }
            return true;
        }

        boolean takeProbeOff() {
            if (!isWholeWithoutProbe()) {
                return false;
            }
            for (int j = 0; j < n; j++) {
                if (probes[j] != 0) {
                    row[j] = row[j] / probes[j];
                }
            }
            return true;
        }

        int sumThrough(int i, int m, int v) {
            int sum = 0;
            for (int j = 0; j < n; j++) {
                if (passes(j, m, v)) {
                    sum += far[j] * signOf(i, j);
                }
            }
            return sum;
        }

        long squaresThrough(int m, int v) {
            long sum = 0;
            for (int j = 0; j < n; j++) {
                if (passes(j, m, v)) {
                    sum += (long) far[j] * far[j];
                }
            }
            return sum;
        }

        int countLost() {
            return countTrue(lost);
        }

        int countMeasured() {
            return countTrue(isMeasured);
        }

        private static int countTrue(boolean[] flags) {
            int count = 0;
            for (boolean flag : flags) {
                if (flag) {
                    count++;
                }
            }
            return count;
        }

        private int offAt(int j) {
            return isMeasured[j] ? measured[j] - far[j] : 0;
        }

        boolean isAnythingOff() {
            for (int j = 0; j < n; j++) {
                if (offAt(j) != 0) {
                    return true;
                }
            }
            return false;
        }

        private int firstMeasured() {
            for (int j = 0; j < n; j++) {
                if (isMeasured[j]) {
                    return j;
                }
            }
            return NONE;
        }

        /** The x by which element i may be the one fault; 0 if it may not. */
        int faultOf(int i) {
            int first = firstMeasured();
            if (first == NONE) {
                return 0;
            }
            int x = offAt(first) * signOf(i, first);
            for (int j = first; j < n; j++) {
                if (isMeasured[j] && offAt(j) != x * signOf(i, j)) {
                    return 0;
                }
            }
            return x;
        }

        int countFaults() {
            int count = 0;
            for (int i = 0; i < n; i++) {
                if (faultOf(i) != 0) {
                    count++;
                }
            }
            return count;
        }

        int elementOfFault(int k) {
            int before = 0;
            for (int i = 0; i < n; i++) {
                if (faultOf(i) != 0) {
                    if (before == k) {
                        return i;
                    }
                    before++;
                }
            }
            return NONE;
        }

        long foldInto(long start) {
            long h = fold(start, n);
            for (int i = 0; i < n; i++) {
                h = fold(h, near[i]);
                h = fold(h, probes[i]);
                h = fold(h, row[i]);
                h = fold(h, lost[i] ? 1 : 0);
                h = foldIfKnown(h, isMeasured[i], measured[i]);
                h = fold(h, limits[i]);
            }
            return h;
        }
    }

    /**
     * The equations of a mend: a row for each far place that the gate does not pass, a column for
     * each lost place, and one more column for what the lost places must add up to there.
     */
    private static final class Mender {
        final long[][] cells = new long[MOST_PLACES][MOST_LOST + 1];
        final int[] unknowns = new int[MOST_LOST];
        int width;
        int height;

        int solve(Net net, int m, int v) {
            listLost(net);
            writeEquations(net, m, v);
            int rank = reduce();
            for (int r = rank; r < height; r++) {
                if (cells[r][width] != 0) {
                    return NO_MEND;
                }
            }
            return rank == width ? ONE_MEND : MANY_MENDS;
        }

        /** Of a lost place, behind a solve that found just one mend. */
        long partOf(int place, int part) {
            for (int c = 0; c < width; c++) {
                if (unknowns[c] == place) {
                    return part == 0 ? above(c) : below(c);
                }
            }
            return MEND_UNKNOWN;
        }

        private void listLost(Net net) {
            width = 0;
            for (int i = 0; i < net.n && width < MOST_LOST; i++) {
                if (net.lost[i]) {
                    unknowns[width] = i;
                    width++;
                }
            }
        }

        private void writeEquations(Net net, int m, int v) {
            height = 0;
            for (int j = 0; j < net.n; j++) {
                if (!passes(j, m, v)) {
                    writeEquation(cells[height], net, j);
                    height++;
                }
            }
        }

        private void writeEquation(long[] equation, Net net, int j) {
            long rest = net.far[j];
            for (int c = 0; c < width; c++) {
                int sign = signOf(unknowns[c], j);
                equation[c] = sign;
                rest -= (long) net.near[unknowns[c]] * sign;
            }
            equation[width] = -rest;
        }

        /**
         * Clears each column but for one row of it, without fractions: every number stays a
         * determinant of the first equations, so that dividing by the pivot before leaves no rest.
         * Answers how many rows are left that say something of the unknowns.
         */
        private int reduce() {
            int rank = 0;
            long before = 1;
            for (int c = 0; c < width; c++) {
                int found = findPivot(rank, c);
                if (found != NONE) {
                    swapRows(rank, found);
                    clearColumn(rank, c, before);
                    before = cells[rank][c];
                    rank++;
                }
            }
            return rank;
        }

        private int findPivot(int from, int c) {
            for (int r = from; r < height; r++) {
                if (cells[r][c] != 0) {
                    return r;
                }
            }
            return NONE;
        }

        private void swapRows(int r, int s) {
            for (int c = 0; c <= width; c++) {
                long held = cells[r][c];
                cells[r][c] = cells[s][c];
                cells[s][c] = held;
            }
        }

        private void clearColumn(int pivotRow, int pivotColumn, long before) {
            long pivot = cells[pivotRow][pivotColumn];
            for (int r = 0; r < height; r++) {
                if (r != pivotRow) {
                    long factor = cells[r][pivotColumn];
                    for (int c = 0; c <= width; c++) {
                        long value = pivot * cells[r][c] - factor * cells[pivotRow][c];
                        cells[r][c] = before == 0 ? value : value / before;
                    }
                }
            }
        }

        // With just one mend the pivot of column c stands in row c.
        private long above(int c) {
            long pivot = cells[c][c];
            long value = pivot < 0 ? -cells[c][width] : cells[c][width];
            long common = commonDivisor(value, pivot);
            return common == 0 ? value : value / common;
        }

        private long below(int c) {
            long pivot = cells[c][c];
            long common = commonDivisor(cells[c][width], pivot);
            return common == 0 ? 1 : Math.abs(pivot) / common;
        }

        private static long commonDivisor(long first, long second) {
            long a = Math.abs(first);
            long b = Math.abs(second);
            // Euclid's rests halve at every second step, so that longs need no more than 128.
            for (int step = 0; step < 128 && b != 0; step++) {
                long rest = a % b;
                a = b;
                b = rest;
            }
            return a;
        }
    }

    /** The sheet; row R of its cells is CLOSING and column C holds the TIES. */
    private static final class Sheet {
        int rows;
        int columns;
        final int[][] cells = new int[MOST_SIDE + 1][MOST_SIDE + 1];

        Sheet() {
            startAnew(2, 1);
        }

        void startAnew(int r, int c) {
            rows = r;
            columns = c;
            for (int i = 0; i <= MOST_SIDE; i++) {
                for (int j = 0; j <= MOST_SIDE; j++) {
                    cells[i][j] = 0;
                }
            }
        }

        boolean holds(int r, int c) {
            return r >= 0 && r <= rows && c >= 0 && c <= columns && (r < rows || c < columns);
        }

        int closedCell(int r, int c) {
            int drifted = (cells[rows][c] - cells[0][c]) * r;
            return rows == 0 ? cells[r][c] : cells[r][c] - Math.floorDiv(drifted, rows);
        }

        int tiedCell(int r, int c) {
            return cells[r][c] + cells[r][columns] - cells[r][0];
        }

        long foldInto(long start) {
            long h = fold(fold(start, rows), columns);
            for (int r = 0; r <= rows; r++) {
                for (int c = 0; c < columns; c++) {
                    h = fold(h, cells[r][c]);
                }
            }
            for (int r = 0; r < rows; r++) {
                h = fold(h, cells[r][columns]);
            }
            return h;
        }
    }

    /** What antennas have together; each pair stands twice, so that its order does not count. */
    private static final class Pairs {
        int m;
        final int[][] known = new int[MOST_ANTENNAS][MOST_ANTENNAS];
        final int[][] values = new int[MOST_ANTENNAS][MOST_ANTENNAS];

        Pairs() {
            startAnew(3);
        }

        void startAnew(int size) {
            m = size;
            for (int a = 0; a < MOST_ANTENNAS; a++) {
                for (int b = 0; b < MOST_ANTENNAS; b++) {
                    known[a][b] = 0;
                    values[a][b] = 0;
                }
            }
        }

        boolean has(int a) {
            return a >= 0 && a < m;
        }

        void put(int a, int b, int v, boolean is) {
            int flag = is ? 1 : 0;
            int value = is ? v : 0;
            known[a][b] = flag;
            known[b][a] = flag;
            values[a][b] = value;
            values[b][a] = value;
        }

        // No antenna is ever known together with itself, so that a three of fewer is never whole.
        private boolean isWhole(int a, int b, int c) {
            return known[a][b] == 1 && known[a][c] == 1 && known[b][c] == 1;
        }

        private int gainBy(int a, int b, int c) {
            return values[a][b] + values[a][c] - values[b][c];
        }

        int firstGain(int a) {
            for (int b = 0; b < m; b++) {
                for (int c = b + 1; c < m; c++) {
                    if (isWhole(a, b, c)) {
                        return gainBy(a, b, c);
                    }
                }
            }
            return MIDDLE_STATE;
        }

        /** The greatest difference of the gains of a by its threes; NONE if none is whole. */
        int spread(int a) {
            boolean any = false;
            int least = 0;
            int most = 0;
            for (int b = 0; b < m; b++) {
                for (int c = b + 1; c < m; c++) {
                    if (isWhole(a, b, c)) {
                        int twice = gainBy(a, b, c);
                        least = any ? Math.min(least, twice) : twice;
                        most = any ? Math.max(most, twice) : twice;
                        any = true;
                    }
                }
            }
            return any ? most - least : NONE;
        }

        int countKnown() {
            int count = 0;
            for (int a = 0; a < m; a++) {
                for (int b = a + 1; b < m; b++) {
                    count += known[a][b];
                }
            }
            return count;
        }

        long foldInto(long start) {
            long h = fold(start, m);
            for (int a = 0; a < m; a++) {
                for (int b = a + 1; b < m; b++) {
                    h = foldIfKnown(h, known[a][b] == 1, values[a][b]);
                }
            }
            return h;
        }
    }

    /** The doubts of a budget, in the order in which they came. */
    private static final class Doubts {
        int count;
        final int[] values = new int[MOST_DOUBTS];

        void add(int v) {
            if (count >= 0 && count < MOST_DOUBTS) {
                values[count] = v;
                count++;
            }
        }

        int sum() {
            int sum = 0;
            for (int d = 0; d < count; d++) {
                sum += values[d];
            }
            return sum;
        }

        long squares() {
            long sum = 0;
            for (int d = 0; d < count; d++) {
                sum += (long) values[d] * values[d];
            }
            return sum;
        }

        int greatest() {
            int most = 0;
            for (int d = 0; d < count; d++) {
                most = Math.max(most, values[d]);
            }
            return most;
        }

        long foldInto(long start) {
            long h = start;
            for (int d = 0; d < count; d++) {
                h = fold(h, values[d]);
            }
            return h;
        }
    }
}
