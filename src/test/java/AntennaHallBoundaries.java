import java.lang.reflect.InvocationTargetException;
import java.lang.reflect.Method;
import java.lang.reflect.Modifier;
import java.math.BigInteger;
import java.util.ArrayList;
import java.util.List;
import java.util.Map;
import java.util.TreeMap;
import java.util.function.Supplier;
import java.util.function.ToLongFunction;

/**
 * Each sentence of the document that names a boundary case has a test of its own here: a method whose
 * remark says the promise's number and the sentence. A method is run because its name begins with
 * "promise" and the promise's number.
 */
public final class AntennaHallBoundaries {
    private static final int NONE = -1;
    private static final int UNKNOWN = -101;
    private static final int OUTSIDE = -102;
    private static final int FULL = -104;
    private static final int MIN = Integer.MIN_VALUE;
    private static final int MAX = Integer.MAX_VALUE;
    /** The first beyond each side, and some that would be a place by their last binary figures alone. */
    private static final int[] NO_PLACE_OF_8 = {-1, 8, 9, 31, 32, -8, 256, MIN, MAX};
    private static final int[] NO_GATE_NUMBER = {-1, 32, 33, 64, MIN, MAX};

    private static String test;
    private static int wrong;

    private AntennaHallBoundaries() {
    }

    // ---- what all tests use

    private static void due(String call, long got, long want) {
        if (got != want) {
            wrong++;
            System.out.println(test + ": " + call + " answered " + got + ", due is " + want);
        }
    }

    /** A refused call answers as told, and its object then answers all as one that was not called. */
    private static void refused(Supplier<AntennaHall> made, String call, ToLongFunction<AntennaHall> asked, long want) {
        AntennaHall hall = made.get();
        due(call, asked.applyAsLong(hall), want);
        unchanged("behind " + call, hall, made.get());
    }

    private static void refused(String call, ToLongFunction<AntennaHall> asked, long want) {
        refused(AntennaHallBoundaries::full, call, asked, want);
    }

    private static void unchanged(String when, AntennaHall hall, AntennaHall twin) {
        Map<String, Long> got = everything(hall);
        Map<String, Long> want = everything(twin);
        for (Map.Entry<String, Long> entry : want.entrySet()) {
            due(when + ", " + entry.getKey(), got.getOrDefault(entry.getKey(), -999L), entry.getValue());
        }
        due(when + ", how much there is to ask", got.size(), want.size());
    }

    /** All that can be asked of an object, in fewer than 200 calls if it has 8 places; it is left changed. */
    private static Map<String, Long> everything(AntennaHall x) {
        Map<String, Long> all = new TreeMap<>();
        all.put("digest()", x.digest());
        for (int what = 0; what < 8; what++) {
            all.put("count(" + what + ")", (long) x.count(what));
        }
        askNet(x, all);
        askDrift(x, all);
        askGains(x, all);
        for (int what = 0; what < 3; what++) {
            all.put("budget(" + what + ")", (long) x.budget(what));
        }
        all.put("sure()", (long) x.sure());
        return all;
    }

    private static void askNet(AntennaHall x, Map<String, Long> all) {
        all.put("power(0, 0)", x.power(0, 0));
        all.put("broken()", (long) x.broken());
        all.put("faults()", (long) x.faults());
        for (int m = 0; m < 4; m++) {
            all.put("mends(" + m + ", 0)", (long) x.mends(m, 0));
        }
        int n = x.count(0);
        for (int i = 0; i < n; i++) {
            all.put("far(" + i + ")", (long) x.far(i));
            all.put("seen(" + i + ")", (long) x.seen(i));
            all.put("gated(" + i + ", 1, 1)", (long) x.gated(i, 1, 1));
            all.put("mend(" + i + ", 2, 0, 0)", x.mend(i, 2, 0, 0));
            all.put("fault(" + i + ")", (long) x.fault(i));
            all.put("by(" + i + ")", (long) x.by(i));
        }
        for (int i = 0; i < n; i++) {
            all.put("near of " + i, (long) x.near(i, 0));
            all.put("probe of " + i, (long) x.probe(i, 1));
            all.put("row at hand at " + i, (long) x.tell(i, 0));
            all.put("lost " + i, (long) x.lose(i, false));
            all.put("measured " + i, (long) x.measure(i, 0, false));
            all.put("limit of " + i, (long) x.limit(i, 0));
        }
    }

    private static void askDrift(AntennaHall x, Map<String, Long> all) {
        int rows = x.count(3);
        int columns = x.count(4);
        for (int r = 0; r <= rows; r++) {
            for (int c = 0; c < columns; c++) {
                all.put("closed(" + r + ", " + c + ")", (long) x.closed(r, c));
                all.put("tied(" + r + ", " + c + ")", (long) x.tied(r, c));
            }
        }
        for (int r = 0; r <= rows; r++) {
            for (int c = 0; c <= columns; c++) {
                all.put("cell at " + r + ", " + c, (long) x.cell(r, c, 0));
            }
        }
    }

    private static void askGains(AntennaHall x, Map<String, Long> all) {
        all.put("loose()", (long) x.loose());
        int m = x.count(5);
        for (int a = 0; a < m; a++) {
            all.put("gain(" + a + ")", (long) x.gain(a));
        }
        for (int a = 0; a < m; a++) {
            for (int b = a + 1; b < m; b++) {
                all.put("together of " + a + ", " + b, (long) x.together(a, b, 0, false));
            }
        }
    }

    /** 8 places, 5 of them lost; a sheet of 3 by 2; 5 antennas; 18 doubts: no room left anywhere. */
    private static AntennaHall full() {
        AntennaHall x = roomy();
        x.lose(0, true);
        x.lose(7, true);
        for (int d = 15; d < 18; d++) {
            x.doubt(100 * d);
        }
        return x;
    }

    /** The same with 3 places lost and 15 doubts. */
    private static AntennaHall roomy() {
        AntennaHall x = new AntennaHall();
        x.net(3);
        int[] near = {7, -3, 0, 1000, -1000, 12, 5, -9};
        int[] probe = {1, -9, 9, 2, -2, 3, -1, 4};
        for (int i = 0; i < 8; i++) {
            x.near(i, near[i]);
            x.probe(i, probe[i]);
            x.tell(i, 11 * i - 20);
            x.limit(i, 1000 * i);
        }
        x.lose(2, true);
        x.lose(3, true);
        x.lose(5, true);
        x.measure(0, x.far(0) + 6, true);
        x.measure(6, x.far(6) - 6, true);
        x.sheet(3, 2);
        for (int place = 0; place < 11; place++) {
            x.cell(place / 3, place % 3, 7 * place - 30);
        }
        x.antennas(5);
        for (int pair = 0; pair < 20; pair++) {
            x.together(pair / 5, pair % 5, 37 * pair % 100, true);
        }
        for (int d = 0; d < 15; d++) {
            x.doubt(100 * d);
        }
        return x;
    }

    private static AntennaHall net(int k, int... near) {
        AntennaHall x = new AntennaHall();
        x.net(k);
        for (int i = 0; i < near.length; i++) {
            x.near(i, near[i]);
        }
        return x;
    }

    private static AntennaHall netOf(int k, int near) {
        AntennaHall x = new AntennaHall();
        int n = x.net(k);
        for (int i = 0; i < n; i++) {
            x.near(i, near);
        }
        return x;
    }

    private static void tell(AntennaHall x, int... row) {
        for (int j = 0; j < row.length; j++) {
            x.tell(j, row[j]);
        }
    }

    private static void lose(AntennaHall x, int... places) {
        for (int i : places) {
            x.lose(i, true);
        }
    }

    private static int sign(int i, int j) {
        int sign = 1;
        for (int bit = 1; bit <= 16; bit *= 2) {
            if (i / bit % 2 == 1 && j / bit % 2 == 1) {
                sign = -sign;
            }
        }
        return sign;
    }

    private static String told(String name, Object... arguments) {
        return name + List.of(arguments).toString().replace('[', '(').replace(']', ')');
    }

    // ---- promises 1 to 11

    private static final class TheNet {
        // Promise 1, The public face: "NONE = -1, UNKNOWN = -101, OUTSIDE = -102, STATE = -103, FULL = -104".
        static void promise01Constants() {
            due("NONE", AntennaHall.NONE, -1);
            due("UNKNOWN", AntennaHall.UNKNOWN, -101);
            due("OUTSIDE", AntennaHall.OUTSIDE, -102);
            due("STATE", AntennaHall.STATE, -103);
            due("FULL", AntennaHall.FULL, -104);
        }

        // Promise 1: "n 2"; Terms: "(n 2 at first, NEAR 0 all)".
        static void promise01TwoPlaces() {
            AntennaHall x = new AntennaHall();
            due("count(0)", x.count(0), 2);
            due("far(0)", x.far(0), 0);
            due("far(1)", x.far(1), 0);
            due("far(2)", x.far(2), -1000001);
            due("near(0, 1)", x.near(0, 1), 0);
            due("near(1, 1)", x.near(1, 1), 0);
            due("near(2, 1)", x.near(2, 1), -10101);
        }

        // Promise 1, Terms: "THE PROBE has a number of each PLACE, -9 to 9, not 0 (1 at first)".
        static void promise01ProbeAtFirst() {
            AntennaHall x = new AntennaHall();
            due("probe(0, 2)", x.probe(0, 2), 1);
            due("probe(1, 2)", x.probe(1, 2), 1);
        }

        // Promise 1, Terms: "A PLACE is LOST or not (none at first)".
        static void promise01NothingLost() {
            AntennaHall x = new AntennaHall();
            due("count(1)", x.count(1), 0);
            due("lose(0, true)", x.lose(0, true), 0);
            due("lose(1, true)", x.lose(1, true), 0);
        }

        // Promise 1, Terms: "FAR is measured at some j (MEASURED, a number), at others not": nothing at
        // first.
        static void promise01NothingMeasured() {
            AntennaHall x = new AntennaHall();
            due("count(2)", x.count(2), 0);
            due("faults()", x.faults(), NONE);
            due("measure(0, 0, true)", x.measure(0, 0, true), 0);
            due("measure(1, 0, true)", x.measure(1, 0, true), 0);
        }

        // Promise 1, Terms: "LIMITS: .. (0 to 100000; 100000 at first)".
        static void promise01LimitsAtFirst() {
            AntennaHall x = new AntennaHall();
            due("broken()", x.broken(), NONE);
            due("limit(0, 0)", x.limit(0, 0), 100000);
            due("limit(1, 0)", x.limit(1, 0), 100000);
        }

        // Promise 1: "a SHEET of 2 rows, 1 column"; nothing but 0 in it, in CLOSING and in TIES.
        static void promise01SheetAtFirst() {
            AntennaHall x = new AntennaHall();
            due("count(3)", x.count(3), 2);
            due("count(4)", x.count(4), 1);
            int[][] inside = {{0, 0}, {1, 0}, {2, 0}, {0, 1}, {1, 1}};
            for (int[] at : inside) {
                due(told("cell", at[0], at[1], 9), x.cell(at[0], at[1], 9), 0);
            }
            due("cell(2, 1, 9)", x.cell(2, 1, 9), -10101);
            due("cell(3, 0, 9)", x.cell(3, 0, 9), -10101);
            due("cell(0, 2, 9)", x.cell(0, 2, 9), -10101);
        }

        // Promise 1: "3 antennas, nothing measured".
        static void promise01ThreeAntennas() {
            AntennaHall x = new AntennaHall();
            due("count(5)", x.count(5), 3);
            due("count(6)", x.count(6), 0);
            due("loose()", x.loose(), NONE);
            due("gain(2)", x.gain(2), -1000003);
            due("gain(3)", x.gain(3), -1000001);
            due("together(0, 1, 5, true)", x.together(0, 1, 5, true), 0);
            due("together(0, 2, 5, true)", x.together(0, 2, 5, true), 0);
            due("together(1, 2, 5, true)", x.together(1, 2, 5, true), 0);
        }

        // Promise 1: "no DOUBTS".
        static void promise01NoDoubts() {
            AntennaHall x = new AntennaHall();
            due("count(7)", x.count(7), 0);
            due("sure()", x.sure(), 0);
            due("doubt(5)", x.doubt(5), 1);
        }

        // Promise 1: "A new object" has nothing of those made before it.
        static void promise01NothingShared() {
            AntennaHall before = full();
            AntennaHall x = new AntennaHall();
            unchanged("of a second object", x, new AntennaHall());
            unchanged("of the first object", before, full());
        }

        // Promise 1, What it is: "An object is used for at most 512 calls after it has been made": the 512th
        // still counts.
        static void promise01TheLastCallThatIsPromised() {
            AntennaHall x = new AntennaHall();
            for (int call = 1; call <= 510; call++) {
                due("call " + call + ", near(1, ..)", x.near(1, call), call - 1);
            }
            due("call 511, far(1)", x.far(1), -510);
            due("call 512, near(1, 0)", x.near(1, 0), 510);
        }

        // Promise 1, What it is: "what later calls answer is free": all that counts is that they end, without a
        // throw, whatever they are given.
        static void promise01LaterCallsStillEnd() {
            int[] given = {MIN, -1, 0, 1, 2, 3, 5, 8, 31, 32, 1000, 10000, 1000000, MAX};
            AntennaHall x = full();
            for (int first : given) {
                for (int second : given) {
                    callAll(x, first, second, first < second);
                }
            }
        }

        private static void callAll(AntennaHall x, int a, int b, boolean is) {
            x.near(a, b);
            x.far(a);
            x.tell(a, b);
            x.probe(a, b);
            x.seen(a);
            x.unprobe();
            x.back();
            x.gated(a, b, a);
            x.power(a, b);
            x.lose(a, is);
            x.mends(a, b);
            x.mend(a, b, a, b);
            x.measure(a, b, is);
            x.faults();
            x.fault(a);
            x.by(a);
            x.limit(a, b);
            x.broken();
            x.cell(a, b, a);
            x.closed(a, b);
            x.tied(a, b);
            x.sheet(a, b);
            x.together(a, b, a, is);
            x.gain(a);
            x.loose();
            x.antennas(b);
            x.doubt(a);
            x.budget(b);
            x.count(a);
            x.digest();
            if (a == b) {
                x.sure();
                x.net(a);
            }
        }

        // Promise 2, Terms: "n being 2 to the k, k 1 to 5": the least k, and each up to the greatest.
        static void promise02EachSize() {
            AntennaHall x = new AntennaHall();
            for (int k = 1; k <= 5; k++) {
                int n = new int[] {0, 2, 4, 8, 16, 32}[k];
                due(told("net", k), x.net(k), n);
                due("count(0)", x.count(0), n);
                due(told("far", n - 1), x.far(n - 1), 0);
                due(told("far", n), x.far(n), -1000001);
            }
        }

        // Promise 2: "OUTSIDE.": the first k below and above 1 to 5, and those whose shift wraps around to 2
        // to 32. Terms: "they change nothing".
        static void promise02Outside() {
            for (int k : new int[] {0, 6, -1, 31, 32, 33, 37, 65, -27, -31, 257, MIN, MIN + 1, MAX}) {
                refused(told("net", k), x -> x.net(k), OUTSIDE);
            }
        }

        // Promise 2: "n becomes 2 to the k, NEAR 0": also of the same k.
        static void promise02NearIsNothing() {
            AntennaHall x = full();
            due("net(3)", x.net(3), 8);
            for (int i = 0; i < 8; i++) {
                due(told("far", i), x.far(i), 0);
                due(told("near", i, 0), x.near(i, 0), 0);
            }
        }

        // Promise 2: "THE PROBE 1".
        static void promise02ProbeIsOne() {
            AntennaHall x = full();
            x.net(3);
            for (int j = 0; j < 8; j++) {
                due(told("probe", j, 2), x.probe(j, 2), 1);
            }
        }

        // Promise 2: "nothing LOST": there is room for 5 again.
        static void promise02NothingLost() {
            AntennaHall x = full();
            x.net(3);
            due("count(1)", x.count(1), 0);
            for (int i = 7; i > 2; i--) {
                due(told("lose", i, true), x.lose(i, true), 0);
            }
            due("lose(0, true)", x.lose(0, true), FULL);
        }

        // Promise 2: "nothing MEASURED".
        static void promise02NothingMeasured() {
            AntennaHall x = full();
            x.net(3);
            due("count(2)", x.count(2), 0);
            due("faults()", x.faults(), NONE);
            due("measure(0, 1, false)", x.measure(0, 1, false), 0);
            due("measure(6, 1, false)", x.measure(6, 1, false), 0);
        }

        // Promise 2: "LIMITS as at first".
        static void promise02LimitsAsAtFirst() {
            AntennaHall x = full();
            x.net(3);
            for (int j = 0; j < 8; j++) {
                due(told("limit", j, 0), x.limit(j, 0), 100000);
            }
        }

        // Promise 2: "n becomes 2 to the k, NEAR 0, ..": a net made smaller and larger has nothing of the one
        // before.
        static void promise02SmallerAndLarger() {
            AntennaHall x = full();
            x.net(1);
            due("near(2, 0)", x.near(2, 0), -10101);
            due("count(1)", x.count(1), 0);
            due("count(2)", x.count(2), 0);
            x.net(3);
            AntennaHall fresh = full();
            fresh.net(3);
            unchanged("behind net(1), net(3)", x, fresh);
        }

        private static void fillPlace(AntennaHall x, int i) {
            x.near(i, -1000);
            x.probe(i, -9);
            x.tell(i, 1000000);
            x.lose(i, true);
            x.measure(i, 1000000, true);
            x.limit(i, 0);
        }

        // Promise 2: "n becomes 2 to the k, NEAR 0, THE PROBE 1, nothing LOST, nothing MEASURED, LIMITS as at
        // first": of the greatest NET, its first and its last place, at once and with the smallest between.
        static void promise02FirstAndLastOfTheGreatest() {
            AntennaHall x = net(5);
            fillPlace(x, 0);
            fillPlace(x, 31);
            due("net(5)", x.net(5), 32);
            due("digest()", x.digest(), net(5).digest());
            due("far(0)", x.far(0), 0);
            due("far(31)", x.far(31), 0);
            fillPlace(x, 0);
            fillPlace(x, 31);
            due("net(1)", x.net(1), 2);
            due("digest()", x.digest(), new AntennaHall().digest());
            due("net(5)", x.net(5), 32);
            due("digest()", x.digest(), net(5).digest());
        }

        // Promise 2 names the NET alone: the SHEET, the antennas and the DOUBTS stay.
        static void promise02TheRestStays() {
            AntennaHall x = full();
            x.net(5);
            AntennaHall twin = full();
            for (int what = 3; what < 8; what++) {
                due(told("count", what), x.count(what), twin.count(what));
            }
            due("closed(2, 1)", x.closed(2, 1), twin.closed(2, 1));
            due("loose()", x.loose(), twin.loose());
            due("budget(0)", x.budget(0), twin.budget(0));
        }

        // Promise 3, Terms: "NEAR of a PLACE is a number, -1000 to 1000."
        static void promise03LeastAndGreatest() {
            AntennaHall x = net(5);
            due("near(0, 1000)", x.near(0, 1000), 0);
            due("near(0, -1000)", x.near(0, -1000), 1000);
            due("near(0, 0)", x.near(0, 0), -1000);
            due("near(31, -1000)", x.near(31, -1000), 0);
            due("near(31, 1000)", x.near(31, 1000), -1000);
            due("near(31, 1000)", x.near(31, 1000), 1000);
        }

        // Promise 3: "-10102: OUTSIDE": the first v beyond each side, and those whose absolute value wraps
        // around. Terms: "they change nothing".
        static void promise03Outside() {
            for (int v : new int[] {1001, -1001, 65536, MIN, MIN + 1, MAX}) {
                refused(told("near", 7, v), x -> x.near(7, v), -10102);
            }
        }

        // Promise 3: "-10101: UNKNOWN"; Terms: "A NET has n PLACES 0 to n less 1". Terms: "they change
        // nothing".
        static void promise03Unknown() {
            for (int i : NO_PLACE_OF_8) {
                refused(told("near", i, 1), x -> x.near(i, 1), -10101);
            }
            due("near(32, 0) of 32", net(5).near(32, 0), -10101);
            due("near(-1, 0) of 32", net(5).near(-1, 0), -10101);
            due("near(4, 0) of 4", net(2).near(4, 0), -10101);
        }

        // Promise 3, Terms: "Refusals, of several the first as told by each call": UNKNOWN ahead of OUTSIDE;
        // "they change nothing".
        static void promise03UnknownAheadOfOutside() {
            refused("near(8, 1001)", x -> x.near(8, 1001), -10101);
            refused("near(-1, MIN)", x -> x.near(-1, MIN), -10101);
        }

        // Promise 4, Terms: "FAR of j: the sum over i of NEAR of i, times the SIGN of i and j": the greatest
        // and the least.
        static void promise04GreatestAndLeast() {
            due("far(0)", netOf(5, 1000).far(0), 32000);
            due("far(0)", netOf(5, -1000).far(0), -32000);
            AntennaHall x = net(5);
            for (int i = 0; i < 32; i++) {
                x.near(i, 1000 * sign(i, 31));
            }
            due("far(31)", x.far(31), 32000);
            due("far(0)", x.far(0), 0);
            due("far(30)", x.far(30), 0);
        }

        // Promise 4, Terms: "SIGN of i and j: 1, if i and j have an even number of binary figures that are 1
        // in both, else -1": from none in both, which is even, to all five.
        static void promise04Signs() {
            AntennaHall x = net(5);
            x.near(31, 1);
            int[] ofOnes = {1, -1, 1, -1, 1, -1};
            int[] places = {0, 16, 17, 21, 30, 31};
            for (int ones = 0; ones < 6; ones++) {
                due(told("far", places[ones]), x.far(places[ones]), ofOnes[ones]);
            }
        }

        // Promise 4: "-1000001: UNKNOWN." Terms: "they change nothing".
        static void promise04Unknown() {
            for (int j : NO_PLACE_OF_8) {
                refused(told("far", j), x -> x.far(j), -1000001);
            }
            due("far(32) of 32", net(5).far(32), -1000001);
            due("far(2) of 2", net(1).far(2), -1000001);
        }

        // Promise 5, Terms: "BACK: the sum over j of FAR of j, times SIGN of i and j, is n times NEAR of i."
        static void promise05ThereAndBack() {
            for (int k = 1; k <= 5; k++) {
                AntennaHall x = new AntennaHall();
                int n = x.net(k);
                for (int i = 0; i < n; i++) {
                    x.near(i, i % 3 == 0 ? 1000 : -1000 + i);
                }
                for (int j = 0; j < n; j++) {
                    x.tell(j, x.far(j));
                }
                for (int i = 0; i < n; i++) {
                    x.near(i, 5);
                }
                due("back() of " + n, x.back(), 1);
                for (int i = 0; i < n; i++) {
                    due(told("near", i, 5) + " of " + n, x.near(i, 5), i % 3 == 0 ? 1000 : -1000 + i);
                }
            }
        }

        // Promise 5: "the rows told so far by tell()": nothing was told yet, so that NEAR becomes 0.
        static void promise05NothingToldYet() {
            AntennaHall x = net(2, 1, 2, 3, 4);
            due("back()", x.back(), 1);
            for (int i = 0; i < 4; i++) {
                due(told("far", i), x.far(i), 0);
                due(told("near", i, 0), x.near(i, 0), 0);
            }
        }

        // Promise 5: "0: it is no row of whole numbers -1000 to 1000": 1000 and -1000 are in it, at the first
        // and the last place.
        static void promise05LeastAndGreatest() {
            for (int k = 1; k <= 5; k++) {
                for (int place = 0; place < 1 << k; place += (1 << k) - 1) {
                    for (int near : new int[] {1000, -1000}) {
                        AntennaHall x = backTo(k, place, near);
                        due("back() to " + near + " at " + place, x.back(), 1);
                        due(told("near", place, 0), x.near(place, 0), near);
                    }
                }
            }
        }

        private static AntennaHall backTo(int k, int place, int near) {
            AntennaHall x = netOf(k, 9);
            for (int j = 0; j < 1 << k; j++) {
                x.tell(j, near * sign(place, j));
            }
            return x;
        }

        // Promise 5: "0: it is no row of whole numbers -1000 to 1000 (nothing is changed)": the first beyond
        // each, at one place alone.
        static void promise05Beyond() {
            for (int k = 1; k <= 3; k++) {
                int size = k;
                for (int place : new int[] {0, (1 << k) - 1}) {
                    for (int near : new int[] {1001, -1001}) {
                        String call = "back() to " + near + " at " + place;
                        refused(() -> backTo(size, place, near), call, AntennaHall::back, 0);
                    }
                }
            }
            due("back() to 1001 at 31", backTo(5, 31, 1001).back(), 0);
            due("back() to -1001 at 31", backTo(5, 31, -1001).back(), 0);
        }

        // Promise 5: "no row of whole numbers": halves at some places, whole numbers at the others.
        static void promise05NotWhole() {
            int[][] rows = {{3, 1, 0, 0}, {1, 1, 0, 0}, {1, 0, 0, 0}, {-1, 0, 0, 0}, {-2, 0, 0, 0}, {0, 0, 0, 3}};
            for (int[] row : rows) {
                refused(() -> {
                    AntennaHall x = net(2, 4, 3, 2, 1);
                    tell(x, row);
                    return x;
                }, "back()", AntennaHall::back, 0);
            }
            AntennaHall x = net(5);
            for (int told : new int[] {1, 16, 31, -1, -16, -31}) {
                x.tell(0, told);
                due("back() of " + told + " and 31 times 0", x.back(), 0);
            }
            for (int told : new int[] {32, -32}) {
                x.tell(0, told);
                due("back() of " + told + " and 31 times 0", x.back(), 1);
                due("near(31, 0)", x.near(31, 0), told / 32);
            }
        }

        // Promise 5: "0: .. (nothing is changed)": a row of the greatest and the least numbers that can be
        // told.
        static void promise05GreatestTold() {
            for (int told : new int[] {1000000, -1000000}) {
                AntennaHall x = netOf(5, 3);
                for (int j = 0; j < 32; j++) {
                    x.tell(j, told);
                }
                due("back()", x.back(), 0);
                due("far(0)", x.far(0), 96);
            }
        }

        // Promise 5: NEAR alone "becomes what goes BACK": the row at hand, THE PROBE, LOST, MEASURED and
        // LIMITS stay.
        static void promise05TheRestStays() {
            AntennaHall x = full();
            AntennaHall twin = full();
            for (int j = 0; j < 8; j++) {
                x.tell(j, 8);
                twin.tell(j, 8);
                twin.near(j, j == 0 ? 8 : 0);
            }
            due("back()", x.back(), 1);
            unchanged("behind back()", x, twin);
        }

        // Promise 6: "its number j becomes v (-1000000 to 1000000): what it was".
        static void promise06LeastAndGreatest() {
            AntennaHall x = net(5);
            due("tell(0, 1000000)", x.tell(0, 1000000), 0);
            due("tell(0, -1000000)", x.tell(0, -1000000), 1000000);
            due("tell(0, 0)", x.tell(0, 0), -1000000);
            due("tell(31, -1000000)", x.tell(31, -1000000), 0);
            due("tell(31, 1)", x.tell(31, 1), -1000000);
        }

        // Promise 6: "-10000002: OUTSIDE." Terms: "they change nothing".
        static void promise06Outside() {
            for (int v : new int[] {1000001, -1000001, MIN, MIN + 1, MAX}) {
                refused(told("tell", 0, v), x -> x.tell(0, v), -10000002);
            }
        }

        // Promise 6: "-10000001: UNKNOWN". Terms: "they change nothing".
        static void promise06Unknown() {
            for (int j : NO_PLACE_OF_8) {
                refused(told("tell", j, 1), x -> x.tell(j, 1), -10000001);
            }
            due("tell(32, 0) of 32", net(5).tell(32, 0), -10000001);
        }

        // Promise 6, Terms: "Refusals, of several the first as told by each call": UNKNOWN ahead of OUTSIDE;
        // "they change nothing".
        static void promise06UnknownAheadOfOutside() {
            refused("tell(8, 1000001)", x -> x.tell(8, 1000001), -10000001);
            refused("tell(-1, MIN)", x -> x.tell(-1, MIN), -10000001);
        }

        // Promise 6: "A row at hand (0 each at first and behind net())".
        static void promise06NothingBehindNet() {
            AntennaHall x = new AntennaHall();
            due("tell(0, 7)", x.tell(0, 7), 0);
            due("tell(1, 8)", x.tell(1, 8), 0);
            x.net(1);
            due("tell(0, 0)", x.tell(0, 0), 0);
            due("tell(1, 0)", x.tell(1, 0), 0);
        }

        // Promise 6: "0 each .. behind net()": not behind one that was refused.
        static void promise06StaysBehindRefusedNet() {
            AntennaHall x = new AntennaHall();
            x.tell(1, 8);
            due("net(0)", x.net(0), OUTSIDE);
            due("tell(1, 0)", x.tell(1, 0), 8);
        }

        // Promise 7, Terms: "THE PROBE has a number of each PLACE, -9 to 9, not 0": the least, the greatest
        // and those beside 0.
        static void promise07LeastAndGreatest() {
            AntennaHall x = net(5);
            due("probe(31, 9)", x.probe(31, 9), 1);
            due("probe(31, -9)", x.probe(31, -9), 9);
            due("probe(31, -1)", x.probe(31, -1), -9);
            due("probe(31, 1)", x.probe(31, 1), -1);
            due("probe(0, 1)", x.probe(0, 1), 1);
        }

        // Promise 7: "OUTSIDE: also 0." Terms: "they change nothing".
        static void promise07Zero() {
            refused("probe(0, 0)", x -> x.probe(0, 0), OUTSIDE);
            refused("probe(7, 0)", x -> x.probe(7, 0), OUTSIDE);
        }

        // Promise 7: "OUTSIDE": the first beyond -9 to 9. Terms: "they change nothing".
        static void promise07Outside() {
            for (int v : new int[] {10, -10, 256, MIN, MIN + 1, MAX}) {
                refused(told("probe", 7, v), x -> x.probe(7, v), OUTSIDE);
            }
        }

        // Promise 7: "UNKNOWN". Terms: "they change nothing".
        static void promise07Unknown() {
            for (int j : NO_PLACE_OF_8) {
                refused(told("probe", j, 1), x -> x.probe(j, 1), UNKNOWN);
            }
            due("probe(32, 1) of 32", net(5).probe(32, 1), UNKNOWN);
        }

        // Promise 7, Terms: "Refusals, of several the first as told by each call": UNKNOWN ahead of OUTSIDE;
        // "they change nothing".
        static void promise07UnknownAheadOfOutside() {
            refused("probe(8, 0)", x -> x.probe(8, 0), UNKNOWN);
            refused("probe(-1, 10)", x -> x.probe(-1, 10), UNKNOWN);
        }

        // Promise 8, Terms: "SEEN of j is FAR of j times it": the greatest and the least.
        static void promise08GreatestAndLeast() {
            AntennaHall x = netOf(5, 1000);
            due("seen(0)", x.seen(0), 32000);
            x.probe(0, 9);
            due("seen(0)", x.seen(0), 288000);
            x.probe(0, -9);
            due("seen(0)", x.seen(0), -288000);
            due("seen(31)", x.seen(31), 0);
        }

        // Promise 8: "-10000001: UNKNOWN." Terms: "they change nothing".
        static void promise08Unknown() {
            for (int j : NO_PLACE_OF_8) {
                refused(told("seen", j), x -> x.seen(j), -10000001);
            }
            due("seen(32) of 32", net(5).seen(32), -10000001);
            due("seen(2) of 2", new AntennaHall().seen(2), -10000001);
        }

        // Promise 9: "The row at hand becomes what it is without THE PROBE, being SEEN: 1": there and off
        // again, of 32.
        static void promise09SeenAndOff() {
            AntennaHall x = net(5);
            for (int i = 0; i < 32; i++) {
                x.near(i, i % 2 == 0 ? 1000 : -999 + i);
                x.probe(i, i % 2 == 0 ? -9 : 9);
            }
            for (int j = 0; j < 32; j++) {
                x.tell(j, x.seen(j));
            }
            due("unprobe()", x.unprobe(), 1);
            for (int j = 0; j < 32; j++) {
                due(told("tell", j, 0), x.tell(j, 0), x.far(j));
            }
        }

        // Promise 9: "being SEEN": nothing was told yet, and nothing by any number of THE PROBE is whole.
        static void promise09NothingToldYet() {
            AntennaHall x = new AntennaHall();
            x.probe(0, -9);
            x.probe(1, 7);
            due("unprobe()", x.unprobe(), 1);
            due("tell(0, 0)", x.tell(0, 0), 0);
            due("tell(1, 0)", x.tell(1, 0), 0);
        }

        // Promise 9: "The row at hand becomes what it is without THE PROBE": the greatest and the least that
        // can be told.
        static void promise09GreatestTold() {
            AntennaHall x = net(2);
            int[] probe = {-1, -1, 8, 9};
            int[] told = {1000000, -1000000, -1000000, 999999};
            int[] without = {-1000000, 1000000, -125000, 111111};
            for (int j = 0; j < 4; j++) {
                x.probe(j, probe[j]);
                x.tell(j, told[j]);
            }
            due("unprobe()", x.unprobe(), 1);
            for (int j = 0; j < 4; j++) {
                due(told("tell", j, 0), x.tell(j, 0), without[j]);
            }
        }

        // Promise 9: "0: some number is not whole then (nothing is changed).": the first alone, the last
        // alone; just beside a whole one.
        static void promise09NotWhole() {
            int[][] rows = {{8, 9, 18, 27}, {9, 9, 18, 26}, {9, 9, 18, 28}, {-8, 9, 18, 27}, {9, 9, -10, 27},
                {1, 0, 0, 0}, {0, 0, 0, -1}};
            for (int[] row : rows) {
                refused(() -> {
                    AntennaHall x = net(2, 1, 2, 3, 4);
                    for (int j = 0; j < 4; j++) {
                        x.probe(j, j % 2 == 0 ? 9 : -9);
                    }
                    tell(x, row);
                    return x;
                }, "unprobe()", AntennaHall::unprobe, 0);
            }
            AntennaHall x = net(5);
            x.probe(31, 2);
            x.tell(0, 6);
            x.tell(31, 999999);
            due("unprobe()", x.unprobe(), 0);
            due("tell(0, 0)", x.tell(0, 0), 6);
            due("tell(31, 0)", x.tell(31, 0), 999999);
        }

        // Promise 9: "The row at hand becomes ..": it alone; NEAR and THE PROBE stay.
        static void promise09TheRestStays() {
            AntennaHall x = full();
            AntennaHall twin = full();
            int[] probe = {1, -9, 9, 2, -2, 3, -1, 4};
            for (int j = 0; j < 8; j++) {
                x.tell(j, 72);
                twin.tell(j, 72 / probe[j]);
            }
            due("unprobe()", x.unprobe(), 1);
            unchanged("behind unprobe()", x, twin);
        }

        // Promise 10, Terms: "GATED of i: the sum over j that it passes of FAR of j, times SIGN of i and j
        // (to be taken by n)": of all j it is n times NEAR of i, not taken by n; the greatest and the least.
        static void promise10GreatestAndLeast() {
            due("gated(31, 0, 0)", netOf(5, 1000).gated(31, 0, 0), 32000);
            due("gated(0, 0, 31)", netOf(5, -1000).gated(0, 0, 31), -32000);
            due("gated(1, 0, 0) of 2", net(1, 3, 4).gated(1, 0, 0), 8);
        }

        // Promise 10, Terms: "(m, v 0 to 31; v's others do not count)": m 0 passes all, whatever v is.
        static void promise10LeastGateNumber() {
            AntennaHall x = net(2, -6, 1, 3, 0);
            for (int v = 0; v < 32; v++) {
                due(told("gated", 2, 0, v), x.gated(2, 0, v), 12);
            }
        }

        // Promise 10, Terms: "A GATE (m, v) passes those j whose binary figures at the places where m has a 1
        // are those of v there": m 31 passes one j alone, or none.
        static void promise10GreatestGateNumber() {
            AntennaHall x = net(2, -6, 1, 3, 0);
            for (int v = 0; v < 32; v++) {
                due(told("gated", 3, 31, v), x.gated(3, 31, v), v < 4 ? x.far(v) * sign(3, v) : 0);
            }
            AntennaHall y = net(5);
            y.near(31, 1000);
            for (int v = 0; v < 32; v++) {
                due(told("gated", 31, 31, v) + " of 32", y.gated(31, 31, v), 1000);
            }
        }

        // Promise 10, Terms: "whose binary figures at the places where m has a 1 are those of v there":
        // places of figures beyond n, where each j has a 0.
        static void promise10FiguresBeyondTheNet() {
            AntennaHall x = net(1, 5, 8);
            for (int m = 2; m < 32; m *= 2) {
                due(told("gated", 0, m, 0), x.gated(0, m, 0), 10);
                due(told("gated", 0, m, 31 - m), x.gated(0, m, 31 - m), 10);
                due(told("gated", 0, m, m), x.gated(0, m, m), 0);
                due(told("gated", 0, m, 31), x.gated(0, m, 31), 0);
            }
        }

        // Promise 10, Terms: "v's others do not count".
        static void promise10OthersOfV() {
            AntennaHall x = net(2, -6, 1, 3, 0);
            for (int others : new int[] {0, 1, 4, 8, 16, 29}) {
                due(told("gated", 1, 2, 2 + others), x.gated(1, 2, 2 + others), 2);
            }
        }

        // Promise 10: "-10000001: UNKNOWN: i". Terms: "they change nothing".
        static void promise10Unknown() {
            for (int i : NO_PLACE_OF_8) {
                refused(told("gated", i, 0, 0), x -> x.gated(i, 0, 0), -10000001);
            }
            due("gated(32, 0, 0) of 32", net(5).gated(32, 0, 0), -10000001);
        }

        // Promise 10: "-10000002: OUTSIDE: m, v." Terms: "they change nothing".
        static void promise10Outside() {
            for (int beyond : NO_GATE_NUMBER) {
                refused(told("gated", 7, beyond, 0), x -> x.gated(7, beyond, 0), -10000002);
                refused(told("gated", 7, 0, beyond), x -> x.gated(7, 0, beyond), -10000002);
            }
            refused("gated(7, 32, -1)", x -> x.gated(7, 32, -1), -10000002);
        }

        // Promise 10, Terms: "Refusals, of several the first as told by each call": UNKNOWN ahead of OUTSIDE;
        // "they change nothing".
        static void promise10UnknownAheadOfOutside() {
            refused("gated(8, 32, 0)", x -> x.gated(8, 32, 0), -10000001);
            refused("gated(-1, 0, -1)", x -> x.gated(-1, 0, -1), -10000001);
        }

        // Promise 11: "The sum of squares of FAR of those j that a GATE passes.": the greatest, of one j and
        // of all.
        static void promise11Greatest() {
            AntennaHall x = netOf(5, -1000);
            due("power(0, 0)", x.power(0, 0), 1024000000L);
            due("power(31, 0)", x.power(31, 0), 1024000000L);
            due("power(31, 31)", x.power(31, 31), 0);
            AntennaHall y = netOf(5, 1000);
            y.near(0, -1000);
            due("power(0, 31)", y.power(0, 31), 1024000000L);
            due("power(31, 31)", y.power(31, 31), 4000000L);
        }

        // Promise 11, Terms: "A GATE (m, v) passes those j ..": none is passed, so that there is nothing to
        // add.
        static void promise11NonePasses() {
            AntennaHall x = netOf(1, 1000);
            for (int m = 2; m < 32; m *= 2) {
                due(told("power", m, m), x.power(m, m), 0);
                due(told("power", m, 31 - m), x.power(m, 31 - m), 4000000L);
            }
        }

        // Promise 11, Terms: "v's others do not count": m 0 passes all.
        static void promise11AllPass() {
            AntennaHall x = net(2, -6, 1, 3, 0);
            due("power(0, 0)", x.power(0, 0), 184);
            due("power(0, 31)", x.power(0, 31), 184);
            due("power(1, 31)", x.power(1, 31), 116);
        }

        // Promise 11: "OUTSIDE (as -102): m, v." Terms: "they change nothing".
        static void promise11Outside() {
            for (int beyond : NO_GATE_NUMBER) {
                refused(told("power", beyond, 0), x -> x.power(beyond, 0), -102);
                refused(told("power", 0, beyond), x -> x.power(0, beyond), -102);
            }
            refused("power(-1, 32)", x -> x.power(-1, 32), -102);
        }
    }

    // ---- promises 12 to 14

    private static final class LostSamples {
        private static final long MEND_UNKNOWN = -9000000000000000001L;
        private static final long MEND_OUTSIDE = -9000000000000000002L;
        private static final long MEND_STATE = -9000000000000000003L;

        // Promise 12: "A PLACE is LOST, or not: 1 if it was, else 0."
        static void promise12WhatItWas() {
            AntennaHall x = net(5);
            for (int i : new int[] {0, 31}) {
                due(told("lose", i, false), x.lose(i, false), 0);
                due(told("lose", i, true), x.lose(i, true), 0);
                due(told("lose", i, true), x.lose(i, true), 1);
                due(told("lose", i, false), x.lose(i, false), 1);
                due(told("lose", i, false), x.lose(i, false), 0);
            }
            due("count(1)", x.count(1), 0);
        }

        // Promise 12: "FULL: 5 are LOST.": a fifth is taken, a sixth is not. Terms: "they change nothing".
        static void promise12Full() {
            AntennaHall x = net(3);
            for (int i = 0; i < 5; i++) {
                due(told("lose", i, true), x.lose(i, true), 0);
                due("count(1)", x.count(1), i + 1);
            }
            for (int i = 5; i < 8; i++) {
                due(told("lose", i, true), x.lose(i, true), FULL);
            }
            due("count(1)", x.count(1), 5);
            for (int i : new int[] {1, 4, 6}) {
                refused(told("lose", i, true), y -> y.lose(i, true), FULL);
            }
        }

        // Promise 12: "FULL: 5 are LOST.": no more would be LOST by a PLACE that is LOST already, or by one
        // that is not to be.
        static void promise12FullOnlyIfOneMore() {
            AntennaHall x = full();
            due("lose(7, true)", x.lose(7, true), 1);
            due("lose(6, false)", x.lose(6, false), 0);
            unchanged("behind them", x, full());
        }

        // Promise 12: "FULL: 5 are LOST.": there is room again as soon as one of them is not.
        static void promise12RoomAgain() {
            AntennaHall x = full();
            due("lose(5, false)", x.lose(5, false), 1);
            due("count(1)", x.count(1), 4);
            due("lose(6, true)", x.lose(6, true), 0);
            due("lose(5, true)", x.lose(5, true), FULL);
            due("count(1)", x.count(1), 5);
        }

        // Promise 12: "A PLACE is LOST, or not": all places of a small NET may be LOST.
        static void promise12AllOfASmallNet() {
            AntennaHall x = net(2);
            for (int i = 0; i < 4; i++) {
                due(told("lose", i, true), x.lose(i, true), 0);
            }
            due("count(1)", x.count(1), 4);
        }

        // Promise 12: "UNKNOWN". Terms: "they change nothing".
        static void promise12Unknown() {
            for (int i : NO_PLACE_OF_8) {
                refused(AntennaHallBoundaries::roomy, told("lose", i, true), x -> x.lose(i, true), UNKNOWN);
                refused(AntennaHallBoundaries::roomy, told("lose", i, false), x -> x.lose(i, false), UNKNOWN);
            }
            due("lose(32, true) of 32", net(5).lose(32, true), UNKNOWN);
        }

        // Promise 12, Terms: "Refusals, of several the first as told by each call": UNKNOWN ahead of FULL;
        // "they change nothing".
        static void promise12UnknownAheadOfFull() {
            refused("lose(8, true)", x -> x.lose(8, true), UNKNOWN);
            refused("lose(-1, true)", x -> x.lose(-1, true), UNKNOWN);
        }

        // Promise 13: "THE MEND: 0 there is none, 1 just one": nothing is LOST, and the row of no fractions
        // is it or is not.
        static void promise13NothingLost() {
            AntennaHall x = net(2, 5, 5, 7, 7);
            due("mends(0, 0), all pass", x.mends(0, 0), 1);
            due("mends(1, 0)", x.mends(1, 0), 1);
            due("mends(1, 1)", x.mends(1, 1), 0);
            due("mends(31, 0)", x.mends(31, 0), 0);
            due("mends(4, 4), none passes", x.mends(4, 4), 0);
            due("mends(4, 4), none passes, NEAR 0", new AntennaHall().mends(4, 4), 1);
        }

        // Promise 13: "2 many": all j pass, so that nothing is asked of what is LOST.
        static void promise13AllPass() {
            AntennaHall x = netOf(5, 1000);
            due("mends(0, 0)", x.mends(0, 0), 1);
            lose(x, 31);
            due("mends(0, 0), one is LOST", x.mends(0, 0), 2);
            due("mends(0, 31), one is LOST", x.mends(0, 31), 2);
        }

        // Promise 13, Terms: "fractions for them with which FAR of all j that it does not pass is 0": none
        // passes and all are LOST.
        static void promise13NonePasses() {
            AntennaHall x = net(2, 9, -9, 1000, 4);
            lose(x, 0, 1, 2);
            due("mends(16, 16), one is not LOST and not 0", x.mends(16, 16), 0);
            x.near(3, 0);
            due("mends(16, 16), one is not LOST and 0", x.mends(16, 16), 1);
            lose(x, 3);
            due("mends(16, 16), all are LOST", x.mends(16, 16), 1);
            due("mends(16, 0), all are LOST and all pass", x.mends(16, 0), 2);
            due("mends(3, 2), all are LOST and one passes", x.mends(3, 2), 2);
        }

        // Promise 13, Terms: "There is just one such row of fractions, or none, or there are many.": from one
        // to many by one more LOST.
        static void promise13FromOneToMany() {
            AntennaHall x = netOf(5, 4);
            lose(x, 0, 1, 2);
            due("mends(3, 0), 3 of 4 that are alike", x.mends(3, 0), 1);
            due("mends(31, 0)", x.mends(31, 0), 1);
            lose(x, 3);
            due("mends(3, 0), 4 of 4 that are alike", x.mends(3, 0), 2);
            due("mends(31, 0)", x.mends(31, 0), 1);
            lose(x, 30);
            due("mends(3, 0), 5 are LOST", x.mends(3, 0), 2);
            due("mends(31, 0), 5 are LOST", x.mends(31, 0), 1);
        }

        // Promise 13: "0 there is none": by one unit at one place that is not LOST; also where there would be
        // many.
        static void promise13NoneByOneUnit() {
            AntennaHall x = netOf(5, 4);
            lose(x, 0, 1, 2, 30);
            due("mends(3, 0)", x.mends(3, 0), 1);
            x.near(17, 5);
            due("mends(3, 0)", x.mends(3, 0), 0);
            lose(x, 3);
            due("mends(3, 0)", x.mends(3, 0), 0);
            x.near(17, 4);
            due("mends(3, 0)", x.mends(3, 0), 2);
        }

        // Promise 13, Terms: "NEAR of LOST PLACES is not looked at here": the greatest and the least of it
        // change nothing.
        static void promise13NearOfLostPlaces() {
            AntennaHall x = netOf(3, 4);
            lose(x, 6);
            for (int near : new int[] {1000, -1000, 0}) {
                x.near(6, near);
                due("mends(7, 0)", x.mends(7, 0), 1);
                due("mend(6, 7, 0, 0)", x.mend(6, 7, 0, 0), 4);
            }
            x.near(6, 4);
            x.near(5, 1000);
            due("mends(7, 0)", x.mends(7, 0), 0);
        }

        // Promise 13: "OUTSIDE: m, v." Terms: "they change nothing".
        static void promise13Outside() {
            for (int beyond : NO_GATE_NUMBER) {
                refused(told("mends", beyond, 0), x -> x.mends(beyond, 0), OUTSIDE);
                refused(told("mends", 0, beyond), x -> x.mends(0, beyond), OUTSIDE);
            }
            refused("mends(32, -1)", x -> x.mends(32, -1), OUTSIDE);
        }

        // Promise 14: "The fraction of a LOST PLACE by THE MEND, in lowest terms: part 0 above, 1 below
        // (above 0).": the greatest and the least, of 5 that are LOST.
        static void promise14GreatestAndLeast() {
            AntennaHall x = net(5);
            for (int i = 0; i < 32; i++) {
                x.near(i, 1000 * sign(i, 31));
            }
            int[] places = {0, 1, 14, 30, 31};
            lose(x, places);
            for (int i : places) {
                x.near(i, 77);
                due(told("mend", i, 31, 31, 0), x.mend(i, 31, 31, 0), 1000 * sign(i, 31));
                due(told("mend", i, 31, 31, 1), x.mend(i, 31, 31, 1), 1);
            }
        }

        // Promise 14: "The fraction of a LOST PLACE by THE MEND": of the smallest NET, each place by the
        // other.
        static void promise14SmallestNet() {
            for (int v = 0; v < 2; v++) {
                for (int place = 0; place < 2; place++) {
                    AntennaHall x = net(1, 1000, 1000);
                    lose(x, place);
                    due(told("mend", place, 1, v, 0), x.mend(place, 1, v, 0), v == 0 ? 1000 : -1000);
                    due(told("mend", place, 1, v, 1), x.mend(place, 1, v, 1), 1);
                }
            }
        }

        // Promise 14: "in lowest terms": nothing above stands over 1.
        static void promise14Nothing() {
            AntennaHall x = net(2, 0, 9, 0, 0);
            lose(x, 1);
            due("mend(1, 3, 0, 0)", x.mend(1, 3, 0, 0), 0);
            due("mend(1, 3, 0, 1)", x.mend(1, 3, 0, 1), 1);
            due("mend(1, 16, 16, 0)", x.mend(1, 16, 16, 0), 0);
            due("mend(1, 16, 16, 1)", x.mend(1, 16, 16, 1), 1);
        }

        /** Of these gates (2, 0) has just one mend, (0, 0) many and (4, 4) none. */
        private static AntennaHall twoLost() {
            AntennaHall x = net(2, 6, -6, -4, 12);
            lose(x, 1, 2);
            return x;
        }

        private static void refusedOfTwo(int i, int m, int v, int part, long want) {
            refused(LostSamples::twoLost, told("mend", i, m, v, part), x -> x.mend(i, m, v, part), want);
        }

        // Promise 14: "UNKNOWN (as -9000000000000000001): i is not LOST": also those that are no PLACE at
        // all. Terms: "they change nothing".
        static void promise14Unknown() {
            for (int i : new int[] {0, 3, 4, -1, 32, MIN, MAX}) {
                refusedOfTwo(i, 2, 0, 0, MEND_UNKNOWN);
                refusedOfTwo(i, 2, 0, 1, MEND_UNKNOWN);
            }
            due("mend(0, 0, 0, 0), nothing is LOST", new AntennaHall().mend(0, 0, 0, 0), MEND_UNKNOWN);
            AntennaHall x = twoLost();
            x.lose(1, false);
            due("mend(1, 2, 0, 0), LOST no more", x.mend(1, 2, 0, 0), MEND_UNKNOWN);
            x.lose(1, true);
            x.net(2);
            due("mend(1, 2, 0, 0), behind net(2)", x.mend(1, 2, 0, 0), MEND_UNKNOWN);
        }

        // Promise 14: "OUTSIDE (..2): m, v, part". Terms: "they change nothing".
        static void promise14Outside() {
            for (int beyond : NO_GATE_NUMBER) {
                refusedOfTwo(1, beyond, 0, 0, MEND_OUTSIDE);
                refusedOfTwo(1, 2, beyond, 0, MEND_OUTSIDE);
            }
            for (int part : new int[] {-1, 2, MIN, MAX}) {
                refusedOfTwo(1, 2, 0, part, MEND_OUTSIDE);
            }
        }

        // Promise 14: "STATE (..3): there is not just one.": there are many, or there is none. Terms: "they
        // change nothing".
        static void promise14State() {
            for (int part = 0; part < 2; part++) {
                refusedOfTwo(1, 0, 0, part, MEND_STATE);
                refusedOfTwo(2, 0, 31, part, MEND_STATE);
                refusedOfTwo(1, 4, 4, part, MEND_STATE);
                refusedOfTwo(2, 3, 0, part, MEND_STATE);
            }
        }

        // Promise 14: "STATE (..3): there is not just one.": one fraction is the same in all of many rows,
        // but the row is not just one.
        static void promise14StateOfAnotherPlace() {
            AntennaHall x = net(2, 5, 0, 0, 0);
            lose(x, 1, 2, 3);
            due("mends(1, 0)", x.mends(1, 0), 2);
            due("mend(1, 1, 0, 0)", x.mend(1, 1, 0, 0), MEND_STATE);
        }

        // Promise 14, Terms: "Refusals, of several the first as told by each call": UNKNOWN ahead of OUTSIDE
        // and of STATE; "they change nothing".
        static void promise14UnknownFirst() {
            refusedOfTwo(0, 32, 0, 0, MEND_UNKNOWN);
            refusedOfTwo(0, 2, -1, 0, MEND_UNKNOWN);
            refusedOfTwo(4, 2, 0, 2, MEND_UNKNOWN);
            refusedOfTwo(0, 0, 0, 0, MEND_UNKNOWN);
            refusedOfTwo(3, 4, 4, 1, MEND_UNKNOWN);
            refusedOfTwo(-1, 0, 0, -1, MEND_UNKNOWN);
        }

        // Promise 14, Terms: "Refusals, of several the first as told by each call": OUTSIDE ahead of STATE;
        // "they change nothing".
        static void promise14OutsideAheadOfState() {
            refusedOfTwo(1, 0, 0, 2, MEND_OUTSIDE);
            refusedOfTwo(1, 4, 4, -1, MEND_OUTSIDE);
            refusedOfTwo(1, 0, 32, 0, MEND_OUTSIDE);
            refusedOfTwo(2, 36, 4, 0, MEND_OUTSIDE);
        }
    }

    // ---- promises 15 to 18

    private static final class Drift {
        // Promise 15: "how many numbers"; Terms: "a SHEET of R rows (2 to 8) and C columns (1 to 8)": the
        // least and the greatest of each.
        static void promise15LeastAndGreatest() {
            AntennaHall x = full();
            for (int r : new int[] {2, 8}) {
                for (int c : new int[] {1, 8}) {
                    due(told("sheet", r, c), x.sheet(r, c), r * c);
                    due("count(3)", x.count(3), r);
                    due("count(4)", x.count(4), c);
                    due(told("closed", r, c - 1), x.closed(r, c - 1), 0);
                    due(told("closed", r + 1, 0), x.closed(r + 1, 0), -10101);
                    due(told("closed", 0, c), x.closed(0, c), -10101);
                }
            }
        }

        // Promise 15: "OUTSIDE.": the first beyond each side, alone and together, and sides whose product
        // wraps around. Terms: "they change nothing".
        static void promise15Outside() {
            int[][] sides = {{1, 1}, {9, 1}, {2, 0}, {2, 9}, {1, 8}, {9, 8}, {8, 0}, {8, 9}, {1, 0}, {9, 9},
                {0, 0}, {-2, -1}, {65536, 65536}, {MIN, 1}, {MAX, 1}, {2, MIN}, {2, MAX}, {MIN, MIN}, {MAX, MAX}};
            for (int[] side : sides) {
                refused(told("sheet", side[0], side[1]), x -> x.sheet(side[0], side[1]), OUTSIDE);
            }
        }

        // Promise 15: "The SHEET becomes R by C, all of it, CLOSING, TIES 0": also of the same size.
        static void promise15AllIsNothing() {
            AntennaHall x = full();
            due("sheet(3, 2)", x.sheet(3, 2), 6);
            for (int place = 0; place < 11; place++) {
                due(told("cell", place / 3, place % 3, 0), x.cell(place / 3, place % 3, 0), 0);
            }
            x.sheet(8, 8);
            int[][] corners = {{0, 0}, {7, 7}, {8, 0}, {8, 7}, {0, 8}, {7, 8}};
            for (int[] at : corners) {
                x.cell(at[0], at[1], 1000);
            }
            due("sheet(8, 8)", x.sheet(8, 8), 64);
            for (int[] at : corners) {
                due(told("cell", at[0], at[1], 0), x.cell(at[0], at[1], 0), 0);
            }
        }

        // Promise 15: "all of it, CLOSING, TIES 0": what is row or column there was CLOSING or TIES before,
        // and the other way.
        static void promise15SmallerAndLarger() {
            for (int[] to : new int[][] {{2, 1}, {4, 3}, {8, 8}}) {
                AntennaHall x = full();
                x.sheet(to[0], to[1]);
                for (int place = 0; place < (to[0] + 1) * (to[1] + 1) - 1; place++) {
                    int r = place / (to[1] + 1);
                    int c = place % (to[1] + 1);
                    due(told("cell", r, c, 5), x.cell(r, c, 5), 0);
                }
                x.sheet(3, 2);
                due("cell(1, 1, 0), made smaller and larger", x.cell(1, 1, 0), 0);
            }
        }

        // Promise 15 names the SHEET alone: the NET, the antennas and the DOUBTS stay.
        static void promise15TheRestStays() {
            AntennaHall x = full();
            AntennaHall twin = full();
            x.sheet(3, 2);
            for (int place = 0; place < 11; place++) {
                twin.cell(place / 3, place % 3, 0);
            }
            unchanged("behind sheet(3, 2)", x, twin);
        }

        // Promise 16, Terms: "numbers -1000 to 1000": of the SHEET, of CLOSING and of TIES.
        static void promise16LeastAndGreatest() {
            AntennaHall x = new AntennaHall();
            x.sheet(8, 8);
            for (int[] at : new int[][] {{0, 0}, {7, 7}, {8, 0}, {8, 7}, {0, 8}, {7, 8}}) {
                due(told("cell", at[0], at[1], 1000), x.cell(at[0], at[1], 1000), 0);
                due(told("cell", at[0], at[1], -1000), x.cell(at[0], at[1], -1000), 1000);
                due(told("cell", at[0], at[1], 0), x.cell(at[0], at[1], 0), -1000);
            }
        }

        // Promise 16: "-10102: OUTSIDE." Terms: "they change nothing".
        static void promise16Outside() {
            for (int v : new int[] {1001, -1001, MIN, MIN + 1, MAX}) {
                for (int[] at : new int[][] {{0, 0}, {3, 1}, {2, 2}}) {
                    refused(told("cell", at[0], at[1], v), x -> x.cell(at[0], at[1], v), -10102);
                }
            }
        }

        // Promise 16: "(row R: CLOSING; column C: TIES, not of row R)"; Terms: "(CLOSING, a row of C); TIES: of
        // each row a number": the corner is nothing. Terms: "they change nothing".
        static void promise16NoTieOfClosing() {
            refused("cell(3, 2, 0)", x -> x.cell(3, 2, 0), -10101);
            AntennaHall x = new AntennaHall();
            due("cell(2, 1, 0) of 2 by 1", x.cell(2, 1, 0), -10101);
            x.sheet(8, 8);
            due("cell(8, 8, 0) of 8 by 8", x.cell(8, 8, 0), -10101);
            due("cell(8, 7, 0) of 8 by 8", x.cell(8, 7, 0), 0);
            due("cell(7, 8, 0) of 8 by 8", x.cell(7, 8, 0), 0);
        }

        // Promise 16: "-10101: UNKNOWN": the first beyond each side. Terms: "they change nothing".
        static void promise16Unknown() {
            int[][] places = {{-1, 0}, {4, 0}, {0, -1}, {0, 3}, {4, 2}, {3, 3}, {4, 3}, {-1, -1}, {9, 0}, {0, 9},
                {MIN, 0}, {MAX, 0}, {0, MIN}, {0, MAX}, {MAX, MAX}, {MIN, MIN}};
            for (int[] at : places) {
                refused(told("cell", at[0], at[1], 5), x -> x.cell(at[0], at[1], 5), -10101);
            }
            AntennaHall x = new AntennaHall();
            x.sheet(8, 8);
            due("cell(9, 0, 0) of 8 by 8", x.cell(9, 0, 0), -10101);
            due("cell(0, 9, 0) of 8 by 8", x.cell(0, 9, 0), -10101);
        }

        // Promise 16, Terms: "Refusals, of several the first as told by each call": UNKNOWN ahead of OUTSIDE;
        // "they change nothing".
        static void promise16UnknownAheadOfOutside() {
            refused("cell(3, 2, 1001)", x -> x.cell(3, 2, 1001), -10101);
            refused("cell(4, 0, -1001)", x -> x.cell(4, 0, -1001), -10101);
            refused("cell(0, -1, MIN)", x -> x.cell(0, -1, MIN), -10101);
        }

        private static AntennaHall drifted(int rows, int first, int row, int v, int closing) {
            AntennaHall x = new AntennaHall();
            x.sheet(rows, 1);
            x.cell(row, 0, v);
            x.cell(0, 0, first);
            x.cell(rows, 0, closing);
            return x;
        }

        // Promise 17, Terms: "CLOSED: the r-th row less D times r by R, rounded down": D times r by R is what
        // is rounded, down also below 0.
        static void promise17RoundedDown() {
            int[][] cases = {{3, 1, 1, 0}, {3, 2, 1, 0}, {3, 1, 2, 0}, {3, 2, 2, 1}, {3, 1, 3, 1}, {3, 1, -1, -1},
                {3, 2, -1, -1}, {3, 1, -2, -1}, {3, 2, -2, -2}, {3, 1, -3, -1}, {8, 1, 7, 0}, {8, 7, 1, 0},
                {8, 1, 8, 1}, {8, 1, -1, -1}, {8, 7, -1, -1}, {8, 1, -8, -1}, {8, 1, -9, -2},
                {2, 1, 1, 0}, {2, 1, -1, -1}, {2, 1, 0, 0}};
            for (int[] one : cases) {
                AntennaHall x = drifted(one[0], 20, one[1], 5, 20 + one[2]);
                due("closed(" + one[1] + ", 0), R " + one[0] + ", D " + one[2], x.closed(one[1], 0), 5 - one[3]);
            }
        }

        // Promise 17, Terms: "numbers -1000 to 1000": the greatest and the least that CLOSED can be.
        static void promise17GreatestAndLeast() {
            due("closed(7, 0)", drifted(8, 1000, 7, 1000, -1000).closed(7, 0), 2750);
            due("closed(7, 0)", drifted(8, -1000, 7, -1000, 1000).closed(7, 0), -2750);
        }

        // Promise 17: "(rows 0 to R: row R becomes row 0 again)": and row 0 stays as it is.
        static void promise17FirstAndLastRow() {
            for (int[] ends : new int[][] {{1000, -1000}, {-1000, 1000}, {7, 7}, {-3, 10}, {10, -3}}) {
                for (int rows = 2; rows <= 8; rows++) {
                    AntennaHall x = drifted(rows, ends[0], 1, 0, ends[1]);
                    due("closed(0, 0), R " + rows, x.closed(0, 0), ends[0]);
                    due(told("closed", rows, 0), x.closed(rows, 0), ends[0]);
                }
            }
        }

        // Promise 17, Terms: "D, of each column, CLOSING less row 0": of its own column, up to the last.
        static void promise17EachColumn() {
            AntennaHall x = new AntennaHall();
            x.sheet(2, 8);
            for (int c = 0; c < 8; c++) {
                x.cell(2, c, 10 * c);
            }
            for (int c = 0; c < 8; c++) {
                due(told("closed", 1, c), x.closed(1, c), -5 * c);
            }
        }

        // Promise 17: "-10101: UNKNOWN.": beyond row R, beyond the last column (TIES are not CLOSED). Terms:
        // "they change nothing".
        static void promise17Unknown() {
            int[][] places = {{-1, 0}, {4, 0}, {0, -1}, {0, 2}, {3, 2}, {1, 3}, {9, 0}, {0, 9},
                {MIN, 0}, {MAX, 0}, {0, MIN}, {0, MAX}, {MAX, MAX}};
            for (int[] at : places) {
                refused(told("closed", at[0], at[1]), x -> x.closed(at[0], at[1]), -10101);
            }
            AntennaHall x = new AntennaHall();
            x.sheet(8, 8);
            due("closed(8, 7) of 8 by 8", x.closed(8, 7), 0);
            due("closed(9, 7) of 8 by 8", x.closed(9, 7), -10101);
            due("closed(8, 8) of 8 by 8", x.closed(8, 8), -10101);
        }

        // Promise 18, Terms: "TIED: each row and, throughout, what its TIE is more than its column 0.": the
        // greatest and the least.
        static void promise18GreatestAndLeast() {
            AntennaHall x = new AntennaHall();
            x.sheet(8, 8);
            for (int side = -1; side <= 1; side += 2) {
                x.cell(7, 7, 1000 * side);
                x.cell(7, 8, 1000 * side);
                x.cell(7, 0, -1000 * side);
                due("tied(7, 7)", x.tied(7, 7), 3000 * side);
                due("tied(7, 0)", x.tied(7, 0), 1000 * side);
                due("tied(6, 7)", x.tied(6, 7), 0);
            }
        }

        // Promise 18, Terms: "what its TIE is more than its column 0": in column 0 it is the TIE; a SHEET of
        // 1 column has no other.
        static void promise18FirstColumn() {
            AntennaHall x = new AntennaHall();
            x.cell(1, 0, 30);
            x.cell(1, 1, -4);
            due("tied(1, 0)", x.tied(1, 0), -4);
            due("tied(0, 0)", x.tied(0, 0), 0);
        }

        // Promise 18: "TIED (rows 0 to R less 1). -10101: UNKNOWN.": CLOSING is not TIED, nor is the column
        // of TIES. Terms: "they change nothing".
        static void promise18Unknown() {
            int[][] places = {{3, 0}, {3, 1}, {4, 0}, {-1, 0}, {0, -1}, {0, 2}, {2, 2}, {0, 3}, {9, 0}, {0, 9},
                {MIN, 0}, {MAX, 0}, {0, MIN}, {0, MAX}, {MAX, MAX}};
            for (int[] at : places) {
                refused(told("tied", at[0], at[1]), x -> x.tied(at[0], at[1]), -10101);
            }
            AntennaHall x = new AntennaHall();
            due("tied(1, 0) of 2 by 1", x.tied(1, 0), 0);
            due("tied(2, 0) of 2 by 1", x.tied(2, 0), -10101);
            x.sheet(8, 8);
            due("tied(7, 7) of 8 by 8", x.tied(7, 7), 0);
            due("tied(8, 7) of 8 by 8", x.tied(8, 7), -10101);
            due("tied(7, 8) of 8 by 8", x.tied(7, 8), -10101);
        }
    }

    // ---- promises 19 to 22

    private static final class Gains {
        private static AntennaHall antennas(int m, int together) {
            AntennaHall x = new AntennaHall();
            x.antennas(m);
            for (int a = 0; a < m; a++) {
                for (int b = a + 1; b < m; b++) {
                    x.together(a, b, together, true);
                }
            }
            return x;
        }

        // Promise 19, Terms: "of two antennas of m (3 to 5)": the least and the greatest.
        static void promise19LeastAndGreatest() {
            AntennaHall x = new AntennaHall();
            for (int m : new int[] {3, 4, 5}) {
                due(told("antennas", m), x.antennas(m), m);
                due("count(5)", x.count(5), m);
                due(told("gain", m - 1), x.gain(m - 1), -1000003);
                due(told("gain", m), x.gain(m), -1000001);
            }
        }

        // Promise 19: "OUTSIDE." Terms: "they change nothing".
        static void promise19Outside() {
            for (int m : new int[] {2, 6, 0, -3, 259, MIN, MAX}) {
                refused(told("antennas", m), x -> x.antennas(m), OUTSIDE);
            }
        }

        // Promise 19: "m antennas, nothing measured": also of the same m.
        static void promise19NothingMeasured() {
            AntennaHall x = antennas(5, 9);
            due("antennas(5)", x.antennas(5), 5);
            due("count(6)", x.count(6), 0);
            due("loose()", x.loose(), NONE);
            for (int a = 0; a < 5; a++) {
                for (int b = a + 1; b < 5; b++) {
                    due(told("together", b, a, 0, true), x.together(b, a, 0, true), 0);
                }
            }
        }

        // Promise 19: "m antennas, nothing measured": made fewer and more again they have nothing of before.
        static void promise19FewerAndMore() {
            AntennaHall x = antennas(5, 9);
            x.antennas(3);
            due("count(6)", x.count(6), 0);
            x.antennas(5);
            due("count(6)", x.count(6), 0);
            due("together(3, 4, 0, false)", x.together(3, 4, 0, false), 0);
        }

        // Promise 19 names the antennas alone: the NET, the SHEET and the DOUBTS stay.
        static void promise19TheRestStays() {
            AntennaHall x = full();
            AntennaHall twin = full();
            x.antennas(5);
            for (int pair = 0; pair < 25; pair++) {
                twin.together(pair / 5, pair % 5, 0, false);
            }
            unchanged("behind antennas(5)", x, twin);
        }

        // Promise 20, Terms: "a number is measured (-10000 to 10000)".
        static void promise20LeastAndGreatest() {
            AntennaHall x = antennas(5, 0);
            due("together(3, 4, 10000, true)", x.together(3, 4, 10000, true), 1);
            due("gain(4)", x.gain(4), 0);
            due("together(0, 4, -10000, true)", x.together(0, 4, -10000, true), 1);
            due("gain(4)", x.gain(4), -10000);
            due("together(0, 4, 10000, true)", x.together(0, 4, 10000, true), 1);
            due("gain(4)", x.gain(4), 10000);
        }

        // Promise 20: "OUTSIDE: v.": also of what is not measured any more, as the call tells no other.
        // Terms: "they change nothing".
        static void promise20Outside() {
            for (int v : new int[] {10001, -10001, 65536, MIN, MIN + 1, MAX}) {
                refused(told("together", 3, 1, v, true), x -> x.together(3, 1, v, true), OUTSIDE);
                refused(told("together", 3, 1, v, false), x -> x.together(3, 1, v, false), OUTSIDE);
            }
        }

        // Promise 20: "UNKNOWN: a, b": the first beyond 0 to m less 1, of each. Terms: "they change nothing".
        static void promise20Unknown() {
            for (int beyond : new int[] {-1, 5, 6, -5, MIN, MAX}) {
                refused(told("together", beyond, 0, 1, true), x -> x.together(beyond, 0, 1, true), UNKNOWN);
                refused(told("together", 0, beyond, 1, true), x -> x.together(0, beyond, 1, true), UNKNOWN);
                refused(told("together", 4, beyond, 1, false), x -> x.together(4, beyond, 1, false), UNKNOWN);
                refused(told("together", beyond, beyond, 1, true), x -> x.together(beyond, beyond, 1, true), UNKNOWN);
            }
            AntennaHall x = new AntennaHall();
            due("together(2, 3, 1, true) of 3", x.together(2, 3, 1, true), UNKNOWN);
            due("together(3, 2, 1, true) of 3", x.together(3, 2, 1, true), UNKNOWN);
        }

        // Promise 20: "UNKNOWN: .. or they are alike". Terms: "they change nothing".
        static void promise20Alike() {
            for (int a = 0; a < 5; a++) {
                int alike = a;
                refused(told("together", a, a, 1, true), x -> x.together(alike, alike, 1, true), UNKNOWN);
                refused(told("together", a, a, 1, false), x -> x.together(alike, alike, 1, false), UNKNOWN);
            }
        }

        // Promise 20, Terms: "Refusals, of several the first as told by each call": UNKNOWN ahead of OUTSIDE;
        // "they change nothing".
        static void promise20UnknownAheadOfOutside() {
            refused("together(1, 1, 10001, true)", x -> x.together(1, 1, 10001, true), UNKNOWN);
            refused("together(5, 1, -10001, true)", x -> x.together(5, 1, -10001, true), UNKNOWN);
            refused("together(1, -1, MIN, false)", x -> x.together(1, -1, MIN, false), UNKNOWN);
        }

        // Promise 20: "1 if it was measured, else 0": 0 that was measured is measured; the order of two does
        // not count.
        static void promise20ZeroIsMeasured() {
            AntennaHall x = new AntennaHall();
            due("together(2, 0, 0, true)", x.together(2, 0, 0, true), 0);
            due("count(6)", x.count(6), 1);
            due("together(0, 2, 0, true)", x.together(0, 2, 0, true), 1);
            due("count(6)", x.count(6), 1);
        }

        // Promise 20: "or is not measured (is false)"; Terms: "or NONE of it": also if it was not before;
        // what v is then does not stay.
        static void promise20NotMeasured() {
            AntennaHall x = new AntennaHall();
            due("together(0, 1, 5, false)", x.together(0, 1, 5, false), 0);
            due("count(6)", x.count(6), 0);
            unchanged("behind it", x, new AntennaHall());
            AntennaHall y = new AntennaHall();
            y.together(1, 0, 8, true);
            due("together(0, 1, 5, false)", y.together(0, 1, 5, false), 1);
            due("together(1, 0, 5, false)", y.together(1, 0, 5, false), 0);
            unchanged("behind them", y, new AntennaHall());
        }

        // Promise 21, Terms: "the gain of a, with b and c, twice: that of a, b and that of a, c, less that of
        // b, c": the greatest and the least.
        static void promise21GreatestAndLeast() {
            for (int side = -1; side <= 1; side += 2) {
                AntennaHall x = antennas(3, 10000 * side);
                x.together(1, 2, -10000 * side, true);
                due("gain(0)", x.gain(0), 30000 * side);
                due("gain(1)", x.gain(1), -10000 * side);
                due("gain(2)", x.gain(2), -10000 * side);
            }
        }

        // Promise 21: "-1000001: UNKNOWN". Terms: "they change nothing".
        static void promise21Unknown() {
            for (int a : new int[] {-1, 5, 6, MIN, MAX}) {
                refused(told("gain", a), x -> x.gain(a), -1000001);
            }
            due("gain(3) of 3", new AntennaHall().gain(3), -1000001);
        }

        // Promise 21: "-1000003: there is none.": nothing is measured; any one of the three is not.
        static void promise21None() {
            AntennaHall x = new AntennaHall();
            for (int a = 0; a < 3; a++) {
                due(told("gain", a), x.gain(a), -1000003);
            }
            int[][] pairs = {{0, 1}, {0, 2}, {1, 2}};
            for (int[] pair : pairs) {
                AntennaHall y = antennas(3, 7);
                y.together(pair[0], pair[1], 0, false);
                for (int a = 0; a < 3; a++) {
                    due(told("gain", a) + " without " + pair[0] + ", " + pair[1], y.gain(a), -1000003);
                }
            }
        }

        // Promise 21: "by its first THREE that is whole (b below c, the least b first, then the least c)":
        // each pair in its turn.
        static void promise21FirstThree() {
            int[][] order = {{0, 1}, {0, 2}, {0, 4}, {1, 2}, {1, 4}, {2, 4}};
            AntennaHall x = antennas(5, 0);
            for (int turn = 0; turn < order.length; turn++) {
                x.together(order[turn][0], order[turn][1], -turn - 1, true);
            }
            for (int turn = 0; turn < order.length; turn++) {
                due("gain(3), three " + turn, x.gain(3), turn + 1);
                x.together(order[turn][1], order[turn][0], 0, false);
            }
            due("gain(3), no three", x.gain(3), -1000003);
        }

        // Promise 21: "there is none": an antenna that stands in no whole THREE, where others do.
        static void promise21NoneOfOne() {
            AntennaHall x = antennas(3, 7);
            x.antennas(4);
            x.together(0, 1, 7, true);
            x.together(0, 2, 7, true);
            x.together(1, 2, 7, true);
            x.together(0, 3, 7, true);
            due("gain(3)", x.gain(3), -1000003);
            due("gain(0)", x.gain(0), 7);
        }

        // Promise 22: "NONE: there is no whole THREE."
        static void promise22None() {
            AntennaHall x = new AntennaHall();
            due("loose()", x.loose(), NONE);
            x.antennas(5);
            for (int b = 1; b < 5; b++) {
                x.together(0, b, 100 * b, true);
                due("loose(), all with 0 alone", x.loose(), NONE);
            }
            x.together(3, 4, 100, true);
            due("loose(), one THREE", x.loose(), 0);
            x.together(0, 4, 100, false);
            due("loose()", x.loose(), NONE);
        }

        // Promise 22, Terms: "A THREE that is whole (all measured) AGREES with another one of the same a, if
        // this is the same number.": all agree, or there is one of each antenna alone.
        static void promise22Nothing() {
            due("loose(), one THREE", antennas(3, -10000).loose(), 0);
            due("loose(), all agree", antennas(5, 10000).loose(), 0);
        }

        // Promise 22: "LOOSE over all antennas"; Terms: "LOOSE: the greatest difference of such numbers of
        // one antenna.": the greatest, of the first and the last antenna.
        static void promise22Greatest() {
            AntennaHall x = new AntennaHall();
            for (int a : new int[] {0, 4}) {
                x.antennas(5);
                int[] others = {4 - a, 1, 2, 3};
                x.together(a, others[0], 10000, true);
                x.together(a, others[1], 10000, true);
                x.together(others[0], others[1], -10000, true);
                due("loose()", x.loose(), 0);
                x.together(a, others[2], -10000, true);
                x.together(a, others[3], -10000, true);
                x.together(others[2], others[3], 10000, true);
                due("loose()", x.loose(), 60000);
            }
        }

        // Promise 22, Terms: "of one antenna": numbers of two antennas are not set against one another; the
        // least difference is 1.
        static void promise22OfOneAntenna() {
            AntennaHall x = antennas(3, 0);
            x.together(0, 1, 5000, true);
            due("loose(), one THREE of each", x.loose(), 0);
            AntennaHall y = antennas(4, 8);
            y.together(2, 3, 9, true);
            due("loose(), by 1", y.loose(), 1);
        }
    }

    // ---- promises 23 to 26

    private static final class Faults {
        // Promise 23: "OUTSIDE: v is not -1000000 to 1000000.": the least and the greatest are.
        static void promise23LeastAndGreatest() {
            AntennaHall x = net(5);
            due("measure(31, 1000000, true)", x.measure(31, 1000000, true), 0);
            due("by(0)", x.by(0), 1000000);
            due("measure(31, -1000000, true)", x.measure(31, -1000000, true), 1);
            due("by(0)", x.by(0), -1000000);
            due("count(2)", x.count(2), 1);
        }

        // Promise 23: "OUTSIDE: v is not -1000000 to 1000000.": also of what is not measured any more, as the
        // call tells no other. Terms: "they change nothing".
        static void promise23Outside() {
            for (int v : new int[] {1000001, -1000001, MIN, MIN + 1, MAX}) {
                refused(told("measure", 6, v, true), x -> x.measure(6, v, true), OUTSIDE);
                refused(told("measure", 6, v, false), x -> x.measure(6, v, false), OUTSIDE);
                refused(told("measure", 7, v, true), x -> x.measure(7, v, true), OUTSIDE);
            }
        }

        // Promise 23: "UNKNOWN". Terms: "they change nothing".
        static void promise23Unknown() {
            for (int j : NO_PLACE_OF_8) {
                refused(told("measure", j, 1, true), x -> x.measure(j, 1, true), UNKNOWN);
                refused(told("measure", j, 1, false), x -> x.measure(j, 1, false), UNKNOWN);
            }
            due("measure(32, 1, true) of 32", net(5).measure(32, 1, true), UNKNOWN);
        }

        // Promise 23, Terms: "Refusals, of several the first as told by each call": UNKNOWN ahead of OUTSIDE;
        // "they change nothing".
        static void promise23UnknownAheadOfOutside() {
            refused("measure(8, 1000001, true)", x -> x.measure(8, 1000001, true), UNKNOWN);
            refused("measure(-1, MIN, false)", x -> x.measure(-1, MIN, false), UNKNOWN);
        }

        // Promise 23: "1 if it was measured, else 0": 0 that was measured is measured.
        static void promise23ZeroIsMeasured() {
            AntennaHall x = new AntennaHall();
            due("measure(1, 0, true)", x.measure(1, 0, true), 0);
            due("count(2)", x.count(2), 1);
            due("measure(1, 0, true)", x.measure(1, 0, true), 1);
            due("measure(0, 0, true)", x.measure(0, 0, true), 0);
            due("count(2)", x.count(2), 2);
        }

        // Promise 23: "or not at all (is false)": also if it was not before; what v is then does not stay.
        static void promise23NotAtAll() {
            AntennaHall x = new AntennaHall();
            due("measure(0, 5, false)", x.measure(0, 5, false), 0);
            unchanged("behind it", x, new AntennaHall());
            AntennaHall y = new AntennaHall();
            y.measure(0, 8, true);
            due("measure(0, 5, false)", y.measure(0, 5, false), 1);
            due("measure(0, 5, false)", y.measure(0, 5, false), 0);
            due("faults()", y.faults(), NONE);
            unchanged("behind them", y, new AntennaHall());
        }

        private static void measureAll(AntennaHall x, int n, int element, int by) {
            for (int j = 0; j < n; j++) {
                x.measure(j, x.far(j) + by * sign(element, j), true);
            }
        }

        // Promise 24: "NONE: nothing is off, or nothing is MEASURED.": nothing is MEASURED, whatever NEAR is.
        static void promise24NothingMeasured() {
            due("faults()", new AntennaHall().faults(), NONE);
            due("faults()", netOf(5, 1000).faults(), NONE);
        }

        // Promise 24: "NONE: nothing is off"; Terms: "due is NEAR": one, or all of 32, are MEASURED as due.
        static void promise24NothingOff() {
            AntennaHall x = netOf(5, 7);
            x.measure(0, 224, true);
            due("faults(), one MEASURED", x.faults(), NONE);
            measureAll(x, 32, 0, 0);
            due("faults(), all MEASURED", x.faults(), NONE);
            x.near(31, 8);
            due("faults(), by what is due alone", x.faults(), 1);
            x.near(31, 7);
            due("faults()", x.faults(), NONE);
        }

        // Promise 24: "How many ELEMENTS may be the one FAULT": one MEASURED leaves all of them, all MEASURED
        // one alone.
        static void promise24FromAllToOne() {
            AntennaHall x = netOf(5, 3);
            int[] left = {32, 16, 8, 4, 2, 1};
            int[] measured = {0, 1, 2, 4, 8, 16};
            for (int turn = 0; turn < 6; turn++) {
                int j = measured[turn];
                x.measure(j, x.far(j) + 9 * sign(21, j), true);
                due("faults(), " + (turn + 1) + " MEASURED", x.faults(), left[turn]);
            }
            measureAll(x, 32, 31, -1);
            due("faults(), all MEASURED", x.faults(), 1);
        }

        // Promise 24, Terms: "what is off at each measured j is x times SIGN of i and j, x not 0": 0 if
        // something is off, but as no one FAULT.
        static void promise24NoElement() {
            AntennaHall x = netOf(5, 3);
            measureAll(x, 32, 31, 5);
            for (int j : new int[] {0, 31}) {
                x.measure(j, x.far(j) + 5 * sign(31, j) + 1, true);
                due("faults(), by 1 at " + j, x.faults(), 0);
                x.measure(j, x.far(j), true);
                due("faults(), not off at " + j, x.faults(), 0);
                x.measure(j, x.far(j) - 5 * sign(31, j), true);
                due("faults(), the other sign at " + j, x.faults(), 0);
                x.measure(j, x.far(j) + 5 * sign(31, j), true);
                due("faults()", x.faults(), 1);
            }
        }

        // Promise 24, Terms: "x not 0": something off at the last j alone, while the first MEASURED is not
        // off.
        static void promise24OffAtTheLastAlone() {
            AntennaHall x = new AntennaHall();
            x.measure(0, 0, true);
            x.measure(1, 1, true);
            due("faults()", x.faults(), 0);
            due("fault(0)", x.fault(0), NONE);
            due("by(0)", x.by(0), 0);
            x.measure(0, 0, false);
            due("faults()", x.faults(), 2);
        }

        private static AntennaHall twoFaults() {
            AntennaHall x = net(2, 1, 2, 3, 4);
            x.measure(0, 15, true);
            x.measure(1, -7, true);
            return x;
        }

        // Promise 25: "The k-th of them": the first is 0, the last one less than there are.
        static void promise25FirstAndLast() {
            AntennaHall x = twoFaults();
            due("faults()", x.faults(), 2);
            due("fault(0)", x.fault(0), 1);
            due("fault(1)", x.fault(1), 3);
            AntennaHall y = net(5);
            y.measure(0, 1, true);
            due("fault(0) of 32", y.fault(0), 0);
            due("fault(31) of 32", y.fault(31), 31);
        }

        // Promise 25: "NONE.": below the first, behind the last.
        static void promise25None() {
            for (int k : new int[] {-1, 2, 3, 32, MIN, MAX}) {
                refused(Faults::twoFaults, told("fault", k), x -> x.fault(k), NONE);
            }
            AntennaHall x = net(5);
            x.measure(0, 1, true);
            due("fault(32) of 32", x.fault(32), NONE);
        }

        // Promise 25: "NONE.": nothing is MEASURED, nothing is off, or no element may be it.
        static void promise25NoneAtAll() {
            AntennaHall x = net(1, 4, 5);
            due("fault(0), nothing MEASURED", x.fault(0), NONE);
            x.measure(0, 9, true);
            due("fault(0), nothing off", x.fault(0), NONE);
            due("fault(-1), nothing off", x.fault(-1), NONE);
            x.measure(1, 0, true);
            due("fault(0), no element", x.fault(0), NONE);
            due("fault(0) of 32, nothing MEASURED", netOf(5, 1).fault(0), NONE);
        }

        // Promise 26: "Its x": the greatest and the least.
        static void promise26GreatestAndLeast() {
            for (int side = -1; side <= 1; side += 2) {
                AntennaHall x = netOf(5, -1000 * side);
                x.measure(0, 1000000 * side, true);
                due("by(0)", x.by(0), 1032000 * side);
                due("by(31)", x.by(31), 1032000 * side);
            }
            AntennaHall y = net(5);
            y.measure(31, 1, true);
            due("by(0)", y.by(0), 1);
            due("by(31)", y.by(31), -1);
        }

        // Promise 26: "0: there is none.": below the first, behind the last.
        static void promise26None() {
            for (int k : new int[] {-1, 2, 3, 32, MIN, MAX}) {
                refused(Faults::twoFaults, told("by", k), x -> x.by(k), 0);
            }
            AntennaHall x = twoFaults();
            due("by(0)", x.by(0), 5);
            due("by(1)", x.by(1), 5);
        }

        // Promise 26: "0: there is none.": nothing is MEASURED, nothing is off, or no element may be it.
        static void promise26NoneAtAll() {
            AntennaHall x = net(1, 4, 5);
            due("by(0), nothing MEASURED", x.by(0), 0);
            x.measure(0, 9, true);
            due("by(0), nothing off", x.by(0), 0);
            x.measure(1, 0, true);
            due("by(0), no element", x.by(0), 0);
            due("by(0) of 32, nothing MEASURED", netOf(5, 1).by(0), 0);
            x.measure(0, 10, true);
            due("by(0)", x.by(0), 1);
        }
    }

    // ---- promises 27 to 31

    private static final class LimitsAndBudgets {
        // Promise 27, Terms: "of each j the most that FAR may be, without its sign (0 to 100000; 100000 at
        // first)".
        static void promise27LeastAndGreatest() {
            AntennaHall x = net(5);
            for (int j : new int[] {0, 31}) {
                due(told("limit", j, 0), x.limit(j, 0), 100000);
                due(told("limit", j, 100000), x.limit(j, 100000), 0);
                due(told("limit", j, 1), x.limit(j, 1), 100000);
                due(told("limit", j, 1), x.limit(j, 1), 1);
            }
        }

        // Promise 27: "OUTSIDE." Terms: "they change nothing".
        static void promise27Outside() {
            for (int v : new int[] {-1, 100001, -100000, MIN, MAX}) {
                refused(told("limit", 7, v), x -> x.limit(7, v), OUTSIDE);
            }
        }

        // Promise 27: "UNKNOWN". Terms: "they change nothing".
        static void promise27Unknown() {
            for (int j : NO_PLACE_OF_8) {
                refused(told("limit", j, 1), x -> x.limit(j, 1), UNKNOWN);
            }
            due("limit(32, 1) of 32", net(5).limit(32, 1), UNKNOWN);
        }

        // Promise 27, Terms: "Refusals, of several the first as told by each call": UNKNOWN ahead of OUTSIDE;
        // "they change nothing".
        static void promise27UnknownAheadOfOutside() {
            refused("limit(8, -1)", x -> x.limit(8, -1), UNKNOWN);
            refused("limit(-1, 100001)", x -> x.limit(-1, 100001), UNKNOWN);
        }

        // Promise 28: "NONE.": nothing can be beyond the LIMITS of the first.
        static void promise28NoneAtFirst() {
            due("broken()", new AntennaHall().broken(), NONE);
            due("broken()", netOf(5, 1000).broken(), NONE);
            due("broken()", netOf(5, -1000).broken(), NONE);
        }

        // Promise 28: "The first j where FAR is beyond its LIMIT": just at it is not beyond it, on both
        // sides; one unit more is.
        static void promise28JustAtIt() {
            for (int near : new int[] {1000, -1000}) {
                AntennaHall x = netOf(5, near);
                x.limit(0, 32000);
                due("broken()", x.broken(), NONE);
                x.limit(0, 31999);
                due("broken()", x.broken(), 0);
            }
        }

        // Promise 28, Terms: "0 to 100000": nothing far away is not beyond a LIMIT of 0; one unit is, on both
        // sides.
        static void promise28LimitOfNothing() {
            AntennaHall x = new AntennaHall();
            x.limit(0, 0);
            x.limit(1, 0);
            due("broken()", x.broken(), NONE);
            x.near(0, 1);
            x.near(1, -1);
            due("broken(), 2 at 1", x.broken(), 1);
            x.near(0, -1);
            x.near(1, 1);
            due("broken(), -2 at 1", x.broken(), 1);
            x.near(1, 0);
            due("broken(), -1 at both", x.broken(), 0);
        }

        // Promise 28: "The first j": of several; the last of all alone.
        static void promise28TheFirst() {
            AntennaHall x = net(5);
            x.near(0, 1);
            for (int j = 31; j >= 0; j--) {
                x.limit(j, 0);
                due("broken()", x.broken(), j);
            }
            for (int j = 0; j < 32; j++) {
                due("broken()", x.broken(), j);
                x.limit(j, 1);
            }
            due("broken()", x.broken(), NONE);
        }

        // Promise 29, Terms: "up to 18 DOUBTS (0 to 10000)": the least and the greatest.
        static void promise29LeastAndGreatest() {
            AntennaHall x = new AntennaHall();
            due("doubt(0)", x.doubt(0), 1);
            due("budget(2)", x.budget(2), 0);
            due("doubt(10000)", x.doubt(10000), 2);
            due("budget(2)", x.budget(2), 10000);
        }

        // Promise 29: "OUTSIDE". Terms: "they change nothing".
        static void promise29Outside() {
            for (int v : new int[] {-1, 10001, -10000, MIN, MAX}) {
                refused(AntennaHallBoundaries::roomy, told("doubt", v), x -> x.doubt(v), OUTSIDE);
                refused(AntennaHall::new, told("doubt", v), x -> x.doubt(v), OUTSIDE);
            }
        }

        // Promise 29: "A DOUBT: how many. OUTSIDE; FULL."; Terms: "up to 18 DOUBTS": an eighteenth is taken,
        // a nineteenth is not. Terms: "they change nothing".
        static void promise29Full() {
            AntennaHall x = new AntennaHall();
            for (int d = 1; d <= 18; d++) {
                due("doubt(5)", x.doubt(5), d);
            }
            due("doubt(5)", x.doubt(5), FULL);
            due("doubt(0)", x.doubt(0), FULL);
            due("count(7)", x.count(7), 18);
            due("budget(0)", x.budget(0), 90);
            refused("doubt(0)", y -> y.doubt(0), FULL);
            refused("doubt(10000)", y -> y.doubt(10000), FULL);
        }

        // Promise 29, Terms: "Refusals, of several the first as told by each call": OUTSIDE ahead of FULL;
        // "they change nothing".
        static void promise29OutsideAheadOfFull() {
            for (int v : new int[] {-1, 10001, MIN, MAX}) {
                refused(told("doubt", v), x -> x.doubt(v), OUTSIDE);
            }
        }

        // Promise 29: "FULL.": there is room again behind sure().
        static void promise29RoomAgain() {
            AntennaHall x = full();
            due("sure()", x.sure(), 18);
            for (int d = 1; d <= 18; d++) {
                due("doubt(1)", x.doubt(1), d);
            }
            due("doubt(1)", x.doubt(1), FULL);
        }

        private static AntennaHall doubts(int... values) {
            AntennaHall x = new AntennaHall();
            for (int v : values) {
                x.doubt(v);
            }
            return x;
        }

        // Promise 30: "The whole of all DOUBTS": there are none yet, or all are 0.
        static void promise30Nothing() {
            for (int what = 0; what < 3; what++) {
                due(told("budget", what), new AntennaHall().budget(what), 0);
                due(told("budget", what), doubts(0).budget(what), 0);
                due(told("budget", what), doubts(new int[18]).budget(what), 0);
                AntennaHall x = full();
                x.sure();
                due(told("budget", what) + " behind sure()", x.budget(what), 0);
            }
        }

        // Promise 30: "what = 0 their sum": the greatest.
        static void promise30GreatestSum() {
            AntennaHall x = new AntennaHall();
            for (int d = 1; d <= 18; d++) {
                x.doubt(10000);
                due("budget(0)", x.budget(0), 10000 * d);
            }
        }

        // Promise 30: "1 the root of the sum of their squares, rounded up": a square, one unit below it and
        // one unit above it.
        static void promise30RootRoundedUp() {
            due("root of 1", doubts(1).budget(1), 1);
            due("root of 2", doubts(1, 1).budget(1), 2);
            due("root of 3", doubts(1, 1, 1).budget(1), 2);
            due("root of 4", doubts(2).budget(1), 2);
            due("root of 5", doubts(2, 1).budget(1), 3);
            due("root of 8", doubts(2, 2).budget(1), 3);
            due("root of 9", doubts(3).budget(1), 3);
            due("root of 25", doubts(3, 4).budget(1), 5);
            due("root of 99999999", doubts(9999, 141, 9, 6).budget(1), 10000);
            due("root of 100000000", doubts(10000).budget(1), 10000);
            due("root of 100000001", doubts(10000, 1).budget(1), 10001);
            due("root of 100000000", doubts(10000, 0).budget(1), 10000);
        }

        // Promise 30: "1 the root of the sum of their squares, rounded up": the greatest.
        static void promise30GreatestRoot() {
            int[] roots = {10000, 14143, 17321, 20000, 22361, 24495, 26458, 28285, 30000, 31623, 33167, 34642,
                36056, 37417, 38730, 40000, 41232, 42427};
            AntennaHall x = new AntennaHall();
            for (int d = 0; d < 18; d++) {
                x.doubt(10000);
                due("budget(1) of " + (d + 1), x.budget(1), roots[d]);
            }
        }

        // Promise 30: "2 the greatest": the first, one between and the last.
        static void promise30TheGreatest() {
            due("budget(2)", doubts(10000, 9999, 0).budget(2), 10000);
            due("budget(2)", doubts(9999, 10000, 0).budget(2), 10000);
            due("budget(2)", doubts(0, 9999, 10000).budget(2), 10000);
            due("budget(2)", doubts(0, 0, 0, 0, 0, 0, 0, 0, 0, 0, 0, 0, 0, 0, 0, 0, 0, 1).budget(2), 1);
            AntennaHall x = doubts(10000);
            x.sure();
            x.doubt(3);
            due("budget(2) behind sure()", x.budget(2), 3);
        }

        // Promise 30: "OUTSIDE." Terms: "they change nothing".
        static void promise30Outside() {
            for (int what : new int[] {-1, 3, 4, MIN, MAX}) {
                refused(told("budget", what), x -> x.budget(what), OUTSIDE);
            }
            due("budget(3), no DOUBTS", new AntennaHall().budget(3), OUTSIDE);
        }

        // Promise 31: "No DOUBTS: how many there were.": none, one, and as many as there can be.
        static void promise31HowManyThereWere() {
            due("sure()", new AntennaHall().sure(), 0);
            AntennaHall x = doubts(0);
            due("sure()", x.sure(), 1);
            due("sure()", x.sure(), 0);
            due("count(7)", x.count(7), 0);
            AntennaHall y = full();
            due("sure()", y.sure(), 18);
            due("sure()", y.sure(), 0);
        }

        // Promise 31: "No DOUBTS": them alone; all else stays.
        static void promise31TheRestStays() {
            AntennaHall x = doubts(1, 2, 3);
            x.sure();
            unchanged("behind sure()", x, new AntennaHall());
            AntennaHall y = full();
            AntennaHall z = roomy();
            lose(z, 0, 7);
            y.sure();
            z.sure();
            unchanged("behind sure()", y, z);
        }
    }

    // ---- promises 32 and 33

    private static final class WhatIsTold {
        // Promise 32: "How many: 0 n, 1 LOST PLACES, 2 MEASURED ones, 3 rows of the SHEET, 4 its columns, 5
        // antennas, 6 pairs measured, 7 DOUBTS.": the least of each.
        static void promise32Least() {
            AntennaHall x = full();
            x.net(1);
            x.sheet(2, 1);
            x.antennas(3);
            x.sure();
            int[] least = {2, 0, 0, 2, 1, 3, 0, 0};
            for (int what = 0; what < 8; what++) {
                due(told("count", what), x.count(what), least[what]);
            }
        }

        // Promise 32: "How many: 0 n, 1 LOST PLACES, 2 MEASURED ones, 3 rows of the SHEET, 4 its columns, 5
        // antennas, 6 pairs measured, 7 DOUBTS.": the greatest of each.
        static void promise32Greatest() {
            AntennaHall x = new AntennaHall();
            x.net(5);
            for (int i = 0; i < 32; i++) {
                x.lose(31 - i, true);
                x.measure(i, 0, true);
                x.doubt(0);
            }
            x.sheet(8, 8);
            x.antennas(5);
            for (int pair = 0; pair < 25; pair++) {
                x.together(pair / 5, pair % 5, 0, true);
            }
            int[] greatest = {32, 5, 32, 8, 8, 5, 10, 18};
            for (int what = 0; what < 8; what++) {
                due(told("count", what), x.count(what), greatest[what]);
            }
        }

        // Promise 32: "OUTSIDE." Terms: "they change nothing".
        static void promise32Outside() {
            for (int what : new int[] {-1, 8, 9, 256, MIN, MAX}) {
                refused(told("count", what), x -> x.count(what), OUTSIDE);
            }
        }

        /** Reckoned without a bound, and only then taken as a long. */
        private static long digestOf(List<Integer> numbers) {
            BigInteger h = BigInteger.valueOf(191);
            for (int number : numbers) {
                h = h.multiply(BigInteger.valueOf(31)).add(BigInteger.valueOf(number));
            }
            return h.longValue();
        }

        // Promise 33: "h is 191, then for each of these numbers, in order, 31 times h, and it": of a new
        // object; no DOUBTS tell nothing.
        static void promise33AtFirst() {
            List<Integer> numbers = new ArrayList<>(List.of(2, 0, 1, 0, 0, 0, 100000));
            numbers.addAll(List.of(0, 1, 0, 0, 0, 100000));
            numbers.addAll(List.of(2, 1, 0, 0, 0, 0, 0));
            numbers.addAll(List.of(3, 0, 0, 0));
            due("digest()", new AntennaHall().digest(), digestOf(numbers));
        }

        private static void putPlaces(AntennaHall x, List<Integer> numbers) {
            numbers.add(x.net(5));
            for (int i = 0; i < 32; i++) {
                int near = i % 2 == 0 ? -1000 : 1000;
                int probe = i % 3 == 0 ? -9 : 9;
                int row = i % 2 == 0 ? 1000000 : -1000000;
                int measured = i % 4 == 0 ? -1000000 : 1000000 - i;
                x.near(i, near);
                x.probe(i, probe);
                x.tell(i, row);
                x.measure(i, measured, true);
                x.limit(i, 3000 * i);
                if (i % 7 == 3) {
                    x.lose(i, true);
                }
                numbers.addAll(List.of(near, probe, row, i % 7 == 3 ? 1 : 0, 1, measured, 3000 * i));
            }
        }

        private static void putSheet(AntennaHall x, List<Integer> numbers) {
            x.sheet(8, 8);
            numbers.addAll(List.of(8, 8));
            for (int place = 0; place < 72; place++) {
                x.cell(place / 8, place % 8, -1000 + 28 * place);
                numbers.add(-1000 + 28 * place);
            }
            for (int r = 0; r < 8; r++) {
                x.cell(r, 8, 1000 - r);
                numbers.add(1000 - r);
            }
        }

        private static void putPairsAndDoubts(AntennaHall x, List<Integer> numbers) {
            numbers.add(x.antennas(5));
            for (int a = 0; a < 5; a++) {
                for (int b = a + 1; b < 5; b++) {
                    x.together(b, a, 10000 - 2001 * (a + b) - a, true);
                    numbers.addAll(List.of(1, 10000 - 2001 * (a + b) - a));
                }
            }
            for (int d = 0; d < 18; d++) {
                x.doubt(10000 - 500 * d);
                numbers.add(10000 - 500 * d);
            }
        }

        // Promise 33: "(as longs, wrapping)": of as much as there can be, which wraps around many times.
        static void promise33Wrapping() {
            AntennaHall x = new AntennaHall();
            List<Integer> numbers = new ArrayList<>();
            putPlaces(x, numbers);
            putSheet(x, numbers);
            putPairsAndDoubts(x, numbers);
            due("digest()", x.digest(), digestOf(numbers));
        }

        // Promise 33: "1 and MEASURED, or 0": MEASURED as 0 tells 1 and 0, not MEASURED tells 0 alone.
        static void promise33MeasuredAsNothing() {
            AntennaHall x = new AntennaHall();
            x.measure(1, 0, true);
            List<Integer> numbers = new ArrayList<>(List.of(2, 0, 1, 0, 0, 0, 100000));
            numbers.addAll(List.of(0, 1, 0, 0, 1, 0, 100000));
            numbers.addAll(List.of(2, 1, 0, 0, 0, 0, 0));
            numbers.addAll(List.of(3, 0, 0, 0));
            due("digest()", x.digest(), digestOf(numbers));
            x.measure(1, 77, false);
            due("digest()", x.digest(), new AntennaHall().digest());
        }

        // Promise 33: "of each pair a below b, by a, then b, 1 and what was measured, or 0": measured as 0
        // tells 1 and 0.
        static void promise33PairMeasuredAsNothing() {
            AntennaHall x = new AntennaHall();
            x.together(2, 1, 0, true);
            List<Integer> numbers = new ArrayList<>(List.of(2, 0, 1, 0, 0, 0, 100000));
            numbers.addAll(List.of(0, 1, 0, 0, 0, 100000));
            numbers.addAll(List.of(2, 1, 0, 0, 0, 0, 0));
            numbers.addAll(List.of(3, 0, 0, 1, 0));
            due("digest()", x.digest(), digestOf(numbers));
            x.together(1, 2, 77, false);
            due("digest()", x.digest(), new AntennaHall().digest());
        }

        // Promise 33: "DOUBTS.": a DOUBT of 0 tells 0, and their order counts.
        static void promise33Doubts() {
            AntennaHall x = new AntennaHall();
            long without = x.digest();
            x.doubt(0);
            due("digest()", x.digest(), 31 * without);
            x.doubt(10000);
            due("digest()", x.digest(), 31 * 31 * without + 10000);
            x.sure();
            due("digest()", x.digest(), without);
            x.doubt(10000);
            x.doubt(0);
            due("digest()", x.digest(), 31 * (31 * without + 10000));
        }

        // Promise 33: "n; of each PLACE ..": of those that there are now, not of those that a larger NET had.
        static void promise33OfTheNetAsItIs() {
            AntennaHall x = net(5, 1, 2, 3, 4, 5);
            x.lose(9, true);
            x.measure(10, 4, true);
            x.net(1);
            due("digest()", x.digest(), new AntennaHall().digest());
        }

        // Promise 33: "rows of the SHEET, CLOSING, TIES": of the SHEET as it is now; nor do the antennas of
        // before count.
        static void promise33OfTheSheetAsItIs() {
            AntennaHall x = new AntennaHall();
            x.sheet(8, 8);
            x.cell(7, 7, 5);
            x.cell(2, 0, 5);
            x.cell(0, 1, 5);
            x.antennas(5);
            x.together(0, 1, 5, true);
            x.together(3, 4, 5, true);
            x.sheet(2, 1);
            x.antennas(3);
            due("digest()", x.digest(), new AntennaHall().digest());
        }

        // Promise 33: "digest": it changes nothing, and neither does any other call that only asks.
        static void promise33AskingChangesNothing() {
            AntennaHall x = full();
            long before = x.digest();
            for (int ask = 0; ask < 8; ask++) {
                x.far(ask);
                x.seen(ask);
                x.gated(ask, 3, 1);
                x.power(ask, 1);
                x.mends(ask, 2);
                x.mend(ask, 3, 1, ask % 2);
                x.closed(ask % 4, ask % 2);
                x.tied(ask % 3, ask % 2);
                x.gain(ask % 5);
                x.fault(ask);
                x.by(ask);
                x.budget(ask % 3);
                x.count(ask);
            }
            x.loose();
            x.faults();
            x.broken();
            due("digest()", x.digest(), before);
            unchanged("behind asking", x, full());
        }
    }

    // ---- how they are run

    private static Map<String, Method> tests() {
        Map<String, Method> all = new TreeMap<>();
        for (Class<?> section : AntennaHallBoundaries.class.getDeclaredClasses()) {
            for (Method method : section.getDeclaredMethods()) {
                if (method.getName().startsWith("promise") && Modifier.isStatic(method.getModifiers())) {
                    all.put(method.getName(), method);
                }
            }
        }
        return all;
    }

    /** Each promise has a test here; without this a whole section could be passed over unseen. */
    private static void demandEachPromise(Map<String, Method> all) {
        for (int promise = 1; promise <= 33; promise++) {
            String start = String.format("promise%02d", promise);
            test = start;
            due("tests", all.keySet().stream().anyMatch(name -> name.startsWith(start)) ? 1 : 0, 1);
        }
    }

    private static void run(Method method) throws IllegalAccessException {
        try {
            method.invoke(null);
        } catch (InvocationTargetException thrown) {
            wrong++;
            System.out.println(test + ": a call threw " + thrown.getCause());
        }
    }

    public static void main(String[] args) throws IllegalAccessException {
        Map<String, Method> all = tests();
        demandEachPromise(all);
        int failed = 0;
        for (Map.Entry<String, Method> entry : all.entrySet()) {
            test = entry.getKey();
            int before = wrong;
            run(entry.getValue());
            failed += wrong == before ? 0 : 1;
        }
        System.out.println("boundaries: " + (all.size() - failed) + " passed, " + failed + " failed");
        if (wrong != 0) {
            System.exit(1);
        }
    }
}
