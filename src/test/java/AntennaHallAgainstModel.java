import java.util.ArrayList;
import java.util.List;
import java.util.Random;

// Long runs of calls, the same every time, against a second and plainer telling of the document.
public final class AntennaHallAgainstModel {
    private static final String[] NAMES = {
        "net", "near", "far", "back", "tell", "probe", "seen", "unprobe", "gated", "power", "lose",
        "mends", "mend", "sheet", "cell", "closed", "tied", "antennas", "together", "gain", "loose",
        "measure", "faults", "fault", "by", "limit", "broken", "doubt", "budget", "sure", "count", "digest"};
    private static final int[] EDGES = {
        -2147483648, 2147483647, -1000001, -1000000, 1000000, 1000001, -100001, 100000, 100001, -10001,
        -10000, 10000, 10001, -1001, -1000, 1000, 1001, 31, 32, 33, 16, 8, 9, -9, -10, 10, -1};

    /** What the document says, said as plainly as can be. */
    private static final class Model {
        int n = 2;
        int[] near = new int[2];
        int[] probe = {1, 1};
        int[] row = new int[2];
        boolean[] lost = new boolean[2];
        Integer[] measured = new Integer[2];
        int[] limit = {100000, 100000};
        int rows = 2;
        int columns = 1;
        int[][] sheet = new int[3][2];
        int m = 3;
        Integer[][] pairs = new Integer[3][3];
        List<Integer> doubts = new ArrayList<>();

        static boolean in(int v, int least, int most) {
            return least <= v && v <= most;
        }

        static int sign(int i, int j) {
            int sign = 1;
            for (int bit = 1; bit < 64; bit *= 2) {
                if ((i / bit) % 2 == 1 && (j / bit) % 2 == 1) {
                    sign = -sign;
                }
            }
            return sign;
        }

        boolean place(int i) {
            return in(i, 0, n - 1);
        }

        int far(int j) {
            int sum = 0;
            for (int i = 0; i < n; i++) {
                sum += near[i] * sign(i, j);
            }
            return sum;
        }

        static boolean passes(int m, int v, int j) {
            for (int bit = 1; bit <= 16; bit *= 2) {
                if ((m / bit) % 2 == 1 && (v / bit) % 2 != (j / bit) % 2) {
                    return false;
                }
            }
            return true;
        }

        static boolean gate(int m, int v) {
            return in(m, 0, 31) && in(v, 0, 31);
        }

        long net(int k) {
            if (!in(k, 1, 5)) {
                return -102;
            }
            n = (int) Math.pow(2, k);
            near = new int[n];
            row = new int[n];
            probe = new int[n];
            limit = new int[n];
            lost = new boolean[n];
            measured = new Integer[n];
            for (int i = 0; i < n; i++) {
                probe[i] = 1;
                limit[i] = 100000;
            }
            return n;
        }

        long back() {
            int[] fresh = new int[n];
            for (int i = 0; i < n; i++) {
                long sum = 0;
                for (int j = 0; j < n; j++) {
                    sum += (long) row[j] * sign(i, j);
                }
                if (sum % n != 0 || Math.abs(sum / n) > 1000) {
                    return 0;
                }
                fresh[i] = (int) (sum / n);
            }
            near = fresh;
            return 1;
        }

        long unprobe() {
            int[] fresh = new int[n];
            for (int j = 0; j < n; j++) {
                fresh[j] = row[j] / probe[j];
                if (fresh[j] * probe[j] != row[j]) {
                    return 0;
                }
            }
            row = fresh;
            return 1;
        }

        long gated(int m, int v, int i) {
            long sum = 0;
            for (int j = 0; j < n; j++) {
                sum += passes(m, v, j) ? far(j) * sign(i, j) : 0;
            }
            return sum;
        }

        long power(int m, int v) {
            long sum = 0;
            for (int j = 0; j < n; j++) {
                sum += passes(m, v, j) ? (long) far(j) * far(j) : 0;
            }
            return sum;
        }

        int lostOnes() {
            int count = 0;
            for (boolean is : lost) {
                count += is ? 1 : 0;
            }
            return count;
        }

        /**
         * Far is 0 at all that a gate does not pass just if places that differ only in figures of m are
         * alike but for their sign with v, or, if it passes nothing, all are 0: so a lost place is told by
         * any place of its kind that is not lost. Null: there is none; else the mends, null for free ones.
         */
        Integer[] mended(int m, int v) {
            Integer[] answer = new Integer[n];
            boolean passesNothing = (m & v) >= n;
            for (int i = 0; i < n; i++) {
                if (passesNothing) {
                    answer[i] = 0;
                    if (!lost[i] && near[i] != 0) {
                        return null;
                    }
                }
                for (int other = 0; other < n && !passesNothing; other++) {
                    if (!lost[other] && ((i ^ other) & ~m) == 0) {
                        int value = near[other] * sign(i ^ other, v);
                        if (answer[i] != null && answer[i] != value) {
                            return null;
                        }
                        answer[i] = value;
                    }
                }
            }
            return answer;
        }

        long mends(int m, int v) {
            Integer[] answer = mended(m, v);
            if (answer == null) {
                return 0;
            }
            for (Integer value : answer) {
                if (value == null) {
                    return 2;
                }
            }
            return 1;
        }

        long lose(int i, boolean is) {
            if (!place(i)) {
                return -101;
            }
            boolean was = lost[i];
            if (is && !was && lostOnes() == 5) {
                return -104;
            }
            lost[i] = is;
            return was ? 1 : 0;
        }

        long closed(int r, int c) {
            double drifted = (double) (sheet[rows][c] - sheet[0][c]) * r / rows;
            return sheet[r][c] - (long) Math.floor(drifted);
        }

        List<Integer> gains(int a) {
            List<Integer> all = new ArrayList<>();
            for (int b = 0; b < m; b++) {
                for (int c = b + 1; c < m; c++) {
                    if (a != b && a != c && pairs[a][b] != null && pairs[a][c] != null && pairs[b][c] != null) {
                        all.add(pairs[a][b] + pairs[a][c] - pairs[b][c]);
                    }
                }
            }
            return all;
        }

        long loose() {
            long most = -1;
            for (int a = 0; a < m; a++) {
                for (int first : gains(a)) {
                    for (int second : gains(a)) {
                        most = Math.max(most, Math.abs(first - second));
                    }
                }
            }
            return most;
        }

        int[] off() {
            int[] answer = new int[n];
            for (int j = 0; j < n; j++) {
                answer[j] = measured[j] == null ? 0 : measured[j] - far(j);
            }
            return answer;
        }

        /** Pairs of an element and its x. */
        List<int[]> faults() {
            List<int[]> all = new ArrayList<>();
            int[] off = off();
            int most = 0;
            for (int value : off) {
                most = Math.max(most, Math.abs(value));
            }
            for (int i = 0; i < n && most != 0; i++) {
                for (int x = -most; x <= most; x += 2 * most) {
                    boolean fits = true;
                    for (int j = 0; j < n; j++) {
                        fits &= measured[j] == null || off[j] == x * sign(i, j);
                    }
                    if (fits) {
                        all.add(new int[] {i, x});
                    }
                }
            }
            return all;
        }

        long faultCount() {
            for (int value : off()) {
                if (value != 0) {
                    return faults().size();
                }
            }
            return -1;
        }

        long broken() {
            for (int j = 0; j < n; j++) {
                if (far(j) > limit[j] || -far(j) > limit[j]) {
                    return j;
                }
            }
            return -1;
        }

        long budget(int what) {
            long sum = 0;
            long squares = 0;
            long most = 0;
            for (int doubt : doubts) {
                sum += doubt;
                squares += (long) doubt * doubt;
                most = Math.max(most, doubt);
            }
            long root = 0;
            while (root * root < squares) {
                root++;
            }
            return what == 0 ? sum : what == 1 ? root : what == 2 ? most : -102;
        }

        long count(int what) {
            int known = 0;
            for (Integer value : measured) {
                known += value == null ? 0 : 1;
            }
            int together = 0;
            for (Integer[] line : pairs) {
                for (Integer value : line) {
                    together += value == null ? 0 : 1;
                }
            }
            int[] all = {n, lostOnes(), known, rows, columns, m, together / 2, doubts.size()};
            return in(what, 0, 7) ? all[what] : -102;
        }

        long digest() {
            List<Integer> all = new ArrayList<>();
            all.add(n);
            for (int i = 0; i < n; i++) {
                all.addAll(List.of(near[i], probe[i], row[i], lost[i] ? 1 : 0));
                all.addAll(measured[i] == null ? List.of(0) : List.of(1, measured[i]));
                all.add(limit[i]);
            }
            all.addAll(List.of(rows, columns));
            for (int r = 0; r <= rows; r++) {
                for (int c = 0; c < columns; c++) {
                    all.add(sheet[r][c]);
                }
            }
            for (int r = 0; r < rows; r++) {
                all.add(sheet[r][columns]);
            }
            all.add(m);
            for (int a = 0; a < m; a++) {
                for (int b = a + 1; b < m; b++) {
                    all.addAll(pairs[a][b] == null ? List.of(0) : List.of(1, pairs[a][b]));
                }
            }
            all.addAll(doubts);
            long h = 191;
            for (int number : all) {
                h = 31 * h + number;
            }
            return h;
        }

        static long put(int[] line, int i, int v) {
            long was = line[i];
            line[i] = v;
            return was;
        }

        long cell(int r, int c, int v) {
            if (!in(r, 0, rows) || !in(c, 0, columns) || r == rows && c == columns) {
                return -10101;
            }
            return in(v, -1000, 1000) ? put(sheet[r], c, v) : -10102;
        }

        long newSheet(int r, int c) {
            if (!in(r, 2, 8) || !in(c, 1, 8)) {
                return -102;
            }
            rows = r;
            columns = c;
            sheet = new int[r + 1][c + 1];
            return r * c;
        }

        long together(int a, int b, int v, boolean is) {
            if (!in(a, 0, m - 1) || !in(b, 0, m - 1) || a == b) {
                return -101;
            }
            if (!in(v, -10000, 10000)) {
                return -102;
            }
            long was = pairs[a][b] == null ? 0 : 1;
            pairs[a][b] = is ? v : null;
            pairs[b][a] = pairs[a][b];
            return was;
        }

        long measure(int j, int v, boolean is) {
            if (!place(j)) {
                return -101;
            }
            if (!in(v, -1000000, 1000000)) {
                return -102;
            }
            long was = measured[j] == null ? 0 : 1;
            measured[j] = is ? v : null;
            return was;
        }

        long mend(int i, int m, int v, int part) {
            if (!place(i) || !lost[i]) {
                return -9000000000000000001L;
            }
            if (!gate(m, v) || !in(part, 0, 1)) {
                return -9000000000000000002L;
            }
            return mends(m, v) != 1 ? -9000000000000000003L : part == 1 ? 1 : mended(m, v)[i];
        }

        long doubt(int v) {
            if (!in(v, 0, 10000)) {
                return -102;
            }
            if (doubts.size() == 18) {
                return -104;
            }
            doubts.add(v);
            return doubts.size();
        }

        long antennas(int size) {
            if (!in(size, 3, 5)) {
                return -102;
            }
            m = size;
            pairs = new Integer[m][m];
            return m;
        }

        long sure() {
            int were = doubts.size();
            doubts.clear();
            return were;
        }

        long answer(int op, int a, int b, int c, int d) {
            boolean wide = place(a);
            switch (NAMES[op]) {
                case "net": return net(a);
                case "near": return !wide ? -10101 : !in(b, -1000, 1000) ? -10102 : put(near, a, b);
                case "far": return wide ? far(a) : -1000001;
                case "back": return back();
                case "tell": return !wide ? -10000001 : !in(b, -1000000, 1000000) ? -10000002 : put(row, a, b);
                case "probe": return !wide ? -101 : b == 0 || !in(b, -9, 9) ? -102 : put(probe, a, b);
                case "seen": return wide ? (long) far(a) * probe[a] : -10000001;
                case "unprobe": return unprobe();
                case "gated": return !wide ? -10000001 : !gate(b, c) ? -10000002 : gated(b, c, a);
                case "power": return gate(a, b) ? power(a, b) : -102;
                case "lose": return lose(a, d % 2 == 0);
                case "mends": return gate(a, b) ? mends(a, b) : -102;
                case "mend": return mend(a, b, c, d);
                case "sheet": return newSheet(a, b);
                case "cell": return cell(a, b, c);
                case "closed": return in(a, 0, rows) && in(b, 0, columns - 1) ? closed(a, b) : -10101;
                case "tied": return in(a, 0, rows - 1) && in(b, 0, columns - 1)
                    ? sheet[a][b] + (sheet[a][columns] - sheet[a][0]) : -10101;
                case "antennas": return antennas(a);
                case "together": return together(a, b, c, d % 2 == 0);
                case "gain": return !in(a, 0, m - 1) ? -1000001 : gains(a).isEmpty() ? -1000003 : gains(a).get(0);
                case "loose": return loose();
                case "measure": return measure(a, b, d % 2 == 0);
                case "faults": return faultCount();
                case "fault": return in(a, 0, faults().size() - 1) ? faults().get(a)[0] : -1;
                case "by": return in(a, 0, faults().size() - 1) ? faults().get(a)[1] : 0;
                case "limit": return !wide ? -101 : !in(b, 0, 100000) ? -102 : put(limit, a, b);
                case "broken": return broken();
                case "doubt": return doubt(a);
                case "budget": return budget(a);
                case "sure": return sure();
                case "count": return count(a);
                default: return digest();
            }
        }
    }

    private static long answer(AntennaHall x, int op, int a, int b, int c, int d) {
        switch (NAMES[op]) {
            case "net": return x.net(a);
            case "near": return x.near(a, b);
            case "far": return x.far(a);
            case "back": return x.back();
            case "tell": return x.tell(a, b);
            case "probe": return x.probe(a, b);
            case "seen": return x.seen(a);
            case "unprobe": return x.unprobe();
            case "gated": return x.gated(a, b, c);
            case "power": return x.power(a, b);
            case "lose": return x.lose(a, d % 2 == 0);
            case "mends": return x.mends(a, b);
            case "mend": return x.mend(a, b, c, d);
            case "sheet": return x.sheet(a, b);
            case "cell": return x.cell(a, b, c);
            case "closed": return x.closed(a, b);
            case "tied": return x.tied(a, b);
            case "antennas": return x.antennas(a);
            case "together": return x.together(a, b, c, d % 2 == 0);
            case "gain": return x.gain(a);
            case "loose": return x.loose();
            case "measure": return x.measure(a, b, d % 2 == 0);
            case "faults": return x.faults();
            case "fault": return x.fault(a);
            case "by": return x.by(a);
            case "limit": return x.limit(a, b);
            case "broken": return x.broken();
            case "doubt": return x.doubt(a);
            case "budget": return x.budget(a);
            case "sure": return x.sure();
            case "count": return x.count(a);
            default: return x.digest();
        }
    }

    /** One object and its model, called alike. */
    private static final class Run {
        final int number;
        final Random chance;
        final AntennaHall hall = new AntennaHall();
        final Model model = new Model();
        int calls;
        int wrong;

        Run(int number) {
            this.number = number;
            chance = new Random(number);
        }

        long call(String name, int a, int b, int c, int d) {
            int op = List.of(NAMES).indexOf(name);
            calls++;
            long got = answer(hall, op, a, b, c, d);
            long want = model.answer(op, a, b, c, d);
            if (got != want) {
                wrong++;
                System.out.println("run " + number + ": " + name + "(" + a + ", " + b + ", " + c + ", " + d
                    + ") answered " + got + ", due is " + want);
            }
            answered[op].add(want);
            return want;
        }

        int between(int least, int most) {
            return least + chance.nextInt(most - least + 1);
        }

        int argument() {
            switch (chance.nextInt(8)) {
                case 0: return EDGES[chance.nextInt(EDGES.length)];
                case 1: return between(-1000, 1000);
                case 2: return between(0, model.n);
                case 3: return between(0, 31);
                default: return between(0, 5);
            }
        }

        void anyCall() {
            int op = chance.nextInt(NAMES.length);
            if (NAMES[op].equals("net") && chance.nextInt(4) != 0) {
                return;
            }
            call(NAMES[op], argument(), argument(), argument(), chance.nextInt(3));
        }

        void rowAndBack() {
            int most = between(0, 3) == 0 ? 1003 : 1000;
            for (int j = 0; j < model.n; j++) {
                int probe = between(1, 9) * (chance.nextBoolean() ? 1 : -1);
                call("probe", j, probe, 0, 0);
            }
            int[] fresh = new int[model.n];
            for (int i = 0; i < model.n; i++) {
                fresh[i] = chance.nextInt(4) == 0 ? most : between(-1000, 1000);
            }
            for (int j = 0; j < model.n; j++) {
                int far = 0;
                for (int i = 0; i < model.n; i++) {
                    far += fresh[i] * Model.sign(i, j);
                }
                call("tell", j, far * model.probe[j], 0, 0);
            }
            call("unprobe", 0, 0, 0, 0);
            call("back", 0, 0, 0, 0);
            call("far", between(0, model.n - 1), 0, 0, 0);
            call("digest", 0, 0, 0, 0);
        }

        void mends() {
            int m = between(0, model.n - 1);
            int v = between(0, 31);
            for (int i = 0; i < model.n; i++) {
                if ((i & m) == 0) {
                    int value = between(-1000, 1000);
                    for (int j = i; j < model.n; j++) {
                        if ((j & ~m) == i) {
                            call("near", j, value * Model.sign(j, v & m), 0, 0);
                        }
                    }
                }
            }
            for (int turn = 0; turn < 7; turn++) {
                int i = between(0, model.n - 1);
                call("lose", i, 0, 0, 0);
                if (chance.nextInt(3) == 0) {
                    call("near", i, between(-1000, 1000), 0, 0);
                }
                int away = chance.nextInt(6) == 0 ? between(0, 31) : m;
                call("mends", away, v, 0, 0);
                call("mend", i, away, v, 0);
                call("mend", i, away, v, 1);
            }
            call("lose", between(0, model.n - 1), 0, 0, 1);
        }

        void oneFault() {
            int element = between(0, model.n - 1);
            int x = between(-5, 5);
            for (int j = 0; j < model.n; j++) {
                int off = chance.nextInt(60) == 0 ? 1 : 0;
                call("measure", j, model.far(j) + x * Model.sign(element, j) + off, 0, between(0, 2));
            }
            call("faults", 0, 0, 0, 0);
            for (int k = 0; k < 4; k++) {
                call("fault", k, 0, 0, 0);
                call("by", k, 0, 0, 0);
            }
        }

        void drift() {
            call("sheet", between(2, 8), between(1, 8), 0, 0);
            for (int turn = 0; turn < 40; turn++) {
                call("cell", between(0, model.rows), between(0, model.columns), between(-1000, 1000), 0);
            }
            for (int turn = 0; turn < 20; turn++) {
                call("closed", between(0, model.rows), between(0, model.columns - 1), 0, 0);
                call("tied", between(0, model.rows - 1), between(0, model.columns - 1), 0, 0);
            }
        }

        void gains() {
            call("antennas", between(3, 5), 0, 0, 0);
            for (int turn = 0; turn < 14; turn++) {
                int value = chance.nextBoolean() ? between(-10000, 10000) : between(290, 300);
                call("together", between(0, model.m - 1), between(0, model.m - 1), value, between(0, 5) == 0 ? 1 : 0);
                call("loose", 0, 0, 0, 0);
                call("gain", between(0, model.m - 1), 0, 0, 0);
            }
        }

        void limitsAndDoubts() {
            for (int turn = 0; turn < 6; turn++) {
                int j = between(0, model.n - 1);
                call("limit", j, Math.max(0, Math.abs(model.far(j)) + between(-1, 1)), 0, 0);
                call("broken", 0, 0, 0, 0);
                call("doubt", between(0, 10000), 0, 0, 0);
                call("budget", between(0, 2), 0, 0, 0);
            }
        }

        void go() {
            call("net", between(1, 5), 0, 0, 0);
            // No turn makes more than 140 calls, and nothing is promised behind the 512th.
            while (calls < 370) {
                switch (chance.nextInt(6)) {
                    case 0: rowAndBack(); break;
                    case 1: mends(); break;
                    case 2: oneFault(); break;
                    case 3: drift(); break;
                    case 4: gains(); break;
                    default: limitsAndDoubts(); break;
                }
                for (int more = 0; more < 25; more++) {
                    anyCall();
                }
                call("digest", 0, 0, 0, 0);
            }
        }
    }

    private static final Tally[] answered = new Tally[NAMES.length];

    /** That each call gave several answers; without it the runs could pass by never asking anything. */
    private static final class Tally {
        private final java.util.Set<Long> seen = new java.util.HashSet<>();

        void add(long value) {
            seen.add(value);
        }
    }

    private static int missing(String name, long... answers) {
        int missing = 0;
        for (long value : answers) {
            if (!answered[List.of(NAMES).indexOf(name)].seen.contains(value)) {
                missing++;
                System.out.println("the runs never had " + name + " answer " + value);
            }
        }
        return missing;
    }

    public static void main(String[] args) {
        for (int op = 0; op < NAMES.length; op++) {
            answered[op] = new Tally();
        }
        int wrong = 0;
        for (int number = 1; number <= 400 && wrong < 20; number++) {
            Run run = new Run(number);
            run.go();
            wrong += run.wrong;
        }
        if (wrong == 0) {
            wrong += missing("net", 2, 4, 8, 16, 32, -102);
            wrong += missing("back", 0, 1);
            wrong += missing("unprobe", 0, 1);
            wrong += missing("lose", 0, 1, -101, -104);
            wrong += missing("mends", 0, 1, 2, -102);
            wrong += missing("mend", 0, 1, -9000000000000000001L, -9000000000000000002L, -9000000000000000003L);
            wrong += missing("gain", -1000001, -1000003);
            wrong += missing("loose", -1, 0);
            wrong += missing("faults", -1, 0, 1, 2, 4);
            wrong += missing("fault", -1, 0, 1, 31);
            wrong += missing("by", 0, 5, -5);
            wrong += missing("broken", -1, 0, 1);
            wrong += missing("doubt", 18, -102, -104);
        }
        System.out.println(wrong == 0 ? "all runs are as the model's" : wrong + " things are not as due");
        if (wrong != 0) {
            System.exit(1);
        }
    }
}
