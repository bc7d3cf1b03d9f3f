// For each promise of the document the answers that are due, worked out by hand.
public final class AntennaHallPromises {
    private static final int MIN = Integer.MIN_VALUE;
    private static final int MAX = Integer.MAX_VALUE;
    private static int promise;
    private static int wrong;

    private static void due(String call, long got, long want) {
        if (got != want) {
            wrong++;
            System.out.println("promise " + promise + ": " + call + " answered " + got + ", due is " + want);
        }
    }

    private static AntennaHall net(int k, int... near) {
        AntennaHall x = new AntennaHall();
        x.net(k);
        for (int i = 0; i < near.length; i++) {
            x.near(i, near[i]);
        }
        return x;
    }

    private static long digestOf(long... numbers) {
        long h = 191;
        for (long number : numbers) {
            h = 31 * h + number;
        }
        return h;
    }

    // Promise 1: "n 2; a SHEET of 2 rows, 1 column; 3 antennas, nothing measured; no DOUBTS."
    private static void aNewObject() {
        AntennaHall x = new AntennaHall();
        long[] counts = {2, 0, 0, 2, 1, 3, 0, 0};
        for (int what = 0; what < counts.length; what++) {
            due("count(" + what + ")", x.count(what), counts[what]);
        }
        for (int i = 0; i < 2; i++) {
            due("far", x.far(i), 0);
            due("near", x.near(i, 0), 0);
            due("probe", x.probe(i, 1), 1);
            due("tell", x.tell(i, 0), 0);
            due("lose", x.lose(i, false), 0);
            due("measure", x.measure(i, 0, false), 0);
            due("limit", x.limit(i, 100000), 100000);
        }
        due("far(2)", x.far(2), -1000001);
        due("cell(2, 0)", x.cell(2, 0, 0), 0);
        due("cell(1, 1)", x.cell(1, 1, 0), 0);
        due("cell(2, 1)", x.cell(2, 1, 0), -10101);
        due("loose", x.loose(), AntennaHall.NONE);
        due("digest", x.digest(), digestOf(2, 0, 1, 0, 0, 0, 100000, 0, 1, 0, 0, 0, 100000,
            2, 1, 0, 0, 0, 0, 0, 3, 0, 0, 0));
    }

    // Promise 2: "n becomes 2 to the k, NEAR 0, THE PROBE 1, nothing LOST, nothing MEASURED, LIMITS as at first:
    // n."
    private static void nets() {
        AntennaHall x = net(2, 5, 6, 7, 8);
        x.probe(3, 2);
        x.tell(3, 9);
        x.lose(3, true);
        x.measure(3, 9, true);
        x.limit(3, 9);
        x.sheet(3, 2);
        x.cell(1, 1, 4);
        x.antennas(4);
        x.together(1, 3, 8, true);
        x.doubt(7);
        long before = x.digest();
        for (int k : new int[] {0, 6, -1, 32, 33, MIN, MAX}) {
            due("net(" + k + ")", x.net(k), AntennaHall.OUTSIDE);
            due("digest behind net(" + k + ")", x.digest(), before);
        }
        due("net(2)", x.net(2), 4);
        due("far", x.far(0), 0);
        due("near", x.near(3, 0), 0);
        due("probe", x.probe(3, 1), 1);
        due("tell", x.tell(3, 0), 0);
        due("lost", x.count(1), 0);
        due("lose", x.lose(3, false), 0);
        due("measured", x.count(2), 0);
        due("limit", x.limit(3, 100000), 100000);
        due("the sheet stays", x.cell(1, 1, 4), 4);
        due("antennas stay", x.count(5), 4);
        due("pairs stay", x.count(6), 1);
        due("doubts stay", x.count(7), 1);
        for (int k = 1; k <= 5; k++) {
            due("net(" + k + ")", x.net(k), 1 << k);
            due("count(0)", x.count(0), 1 << k);
            due("the last place", x.far((1 << k) - 1), 0);
            due("beyond the last place", x.far(1 << k), -1000001);
        }
    }

    /** All that a net can hold, so that a step beyond its last place would leave its rows. */
    private static AntennaHall fullNet() {
        AntennaHall x = net(5);
        for (int i = 0; i < 32; i++) {
            x.near(i, i - 16);
            x.probe(i, i % 2 == 0 ? -9 : 9);
        }
        return x;
    }

    // Promise 3: "NEAR of a PLACE becomes v: what it was."
    private static void nears() {
        AntennaHall x = net(1);
        due("near(0, 1000)", x.near(0, 1000), 0);
        due("near(0, -1000)", x.near(0, -1000), 1000);
        due("near(0, 1001)", x.near(0, 1001), -10102);
        due("near(0, -1001)", x.near(0, -1001), -10102);
        due("near(0, MIN)", x.near(0, MIN), -10102);
        due("near(2, 0)", x.near(2, 0), -10101);
        due("near(-1, 0)", x.near(-1, 0), -10101);
        due("near(2, 1001)", x.near(2, 1001), -10101);
        due("near(MAX, MAX)", x.near(MAX, MAX), -10101);
        due("near(0, 3)", x.near(0, 3), -1000);
        due("near(1, 4)", x.near(1, 4), 0);
    }

    // Promise 4: "FAR of j: the sum over i of NEAR of i, times the SIGN of i and j."
    private static void fars() {
        AntennaHall x = net(3, -3, 4, 6, 3, -5, 1, 2, -2);
        int[] want = {6, -6, -12, -20, 14, -2, -4, 0};
        for (int j = 0; j < 8; j++) {
            due("far(" + j + ")", x.far(j), want[j]);
        }
        x.lose(0, true);
        due("far of a lost place", x.far(0), 6);
        x.near(0, 7);
        due("far behind near", x.far(7), 10);
        due("far(8)", x.far(8), -1000001);
        due("far(-1)", x.far(-1), -1000001);
        due("far(MIN)", x.far(MIN), -1000001);
        due("far(MAX)", x.far(MAX), -1000001);
        AntennaHall y = net(5);
        for (int i = 0; i < 32; i++) {
            y.near(i, Integer.bitCount(i & 31) % 2 == 0 ? -1000 : 1000);
        }
        due("the least far", y.far(31), -32000);
        due("others then", y.far(30), 0);
    }

    private static void tell(AntennaHall x, int... row) {
        for (int j = 0; j < row.length; j++) {
            x.tell(j, row[j]);
        }
    }

    // Promise 5: "NEAR of all PLACES becomes what goes BACK from the rows told so far by tell(): 1"
    private static void backs() {
        AntennaHall x = net(2, 9, 9, 9, 9);
        tell(x, -2, -4, -8, -10);
        due("back", x.back(), 1);
        due("near(0)", x.near(0, -6), -6);
        due("near(1)", x.near(1, 1), 1);
        due("near(2)", x.near(2, 3), 3);
        due("near(3)", x.near(3, 0), 0);
        due("far behind back", x.far(3), -10);
        due("the row stays", x.tell(3, -9), -10);
        long before = x.digest();
        due("back of no whole numbers", x.back(), 0);
        due("nothing changed", x.digest(), before);
        due("far as before", x.far(3), -10);
        AntennaHall y = net(1, 1, 1);
        tell(y, 2000, 0);
        due("back of 1000", y.back(), 1);
        due("near(1)", y.near(1, 1000), 1000);
        tell(y, -2000, 0);
        due("back of -1000", y.back(), 1);
        tell(y, 2001, 1);
        due("back of 1001, 1000", y.back(), 0);
        tell(y, -2001, 1);
        due("back of -1000, -1001", y.back(), 0);
        due("nothing changed", y.near(0, 0), -1000);
        tell(y, 1, 0);
        due("back of halves", y.back(), 0);
        due("back of an empty row", new AntennaHall().back(), 1);
        AntennaHall z = fullNet();
        z.tell(31, 32000);
        due("back of 32", z.back(), 1);
        due("near(0)", z.near(0, 0), 1000);
        due("near(31)", z.near(31, 0), -1000);
    }

    // Promise 6: "A row at hand (0 each at first and behind net()): its number j becomes v (-1000000 to 1000000):
    // what it was."
    private static void tells() {
        AntennaHall x = net(1);
        due("tell(0, 1000000)", x.tell(0, 1000000), 0);
        due("tell(0, -1000000)", x.tell(0, -1000000), 1000000);
        due("tell(0, 1000001)", x.tell(0, 1000001), -10000002);
        due("tell(0, -1000001)", x.tell(0, -1000001), -10000002);
        due("tell(1, 5)", x.tell(1, 5), 0);
        due("tell(0, 0)", x.tell(0, 0), -1000000);
        due("tell(2, 0)", x.tell(2, 0), -10000001);
        due("tell(-1, MAX)", x.tell(-1, MAX), -10000001);
        due("near stays", x.near(1, 0), 0);
    }

    // Promise 7: "THE PROBE's number of j becomes v: what it was."
    private static void probes() {
        AntennaHall x = net(1);
        due("probe(1, 9)", x.probe(1, 9), 1);
        due("probe(1, -9)", x.probe(1, -9), 9);
        due("probe(1, 10)", x.probe(1, 10), AntennaHall.OUTSIDE);
        due("probe(1, -10)", x.probe(1, -10), AntennaHall.OUTSIDE);
        due("probe(1, 0)", x.probe(1, 0), AntennaHall.OUTSIDE);
        due("probe(1, MIN)", x.probe(1, MIN), AntennaHall.OUTSIDE);
        due("probe(1, 1)", x.probe(1, 1), -9);
        due("probe(2, 0)", x.probe(2, 0), AntennaHall.UNKNOWN);
        due("probe(-1, 1)", x.probe(-1, 1), AntennaHall.UNKNOWN);
        due("probe(0, 1)", x.probe(0, 1), 1);
    }

    // Promise 8: "SEEN of j is FAR of j times it."
    private static void seens() {
        AntennaHall x = net(1, 5, 8);
        x.probe(1, -7);
        due("seen(0)", x.seen(0), 13);
        due("seen(1)", x.seen(1), 21);
        due("seen(2)", x.seen(2), -10000001);
        due("seen(-1)", x.seen(-1), -10000001);
        due("seen(MIN)", x.seen(MIN), -10000001);
    }

    // Promise 9: "The row at hand becomes what it is without THE PROBE, being SEEN: 1"
    private static void unprobes() {
        AntennaHall x = net(2);
        x.probe(1, -3);
        x.probe(2, 4);
        tell(x, 7, -6, 8, 0);
        due("unprobe", x.unprobe(), 1);
        due("tell(0)", x.tell(0, 7), 7);
        due("tell(1)", x.tell(1, -6), 2);
        due("tell(2)", x.tell(2, 7), 2);
        long before = x.digest();
        due("unprobe of no whole numbers", x.unprobe(), 0);
        due("nothing changed", x.digest(), before);
        x.tell(2, -8);
        due("unprobe", x.unprobe(), 1);
        due("the probe stays", x.probe(1, 1), -3);
        due("tell(2)", x.tell(2, 0), -2);
        x.probe(0, 5);
        x.tell(0, 4);
        due("unprobe, not whole at 0", x.unprobe(), 0);
        x.tell(0, 10);
        due("unprobe, whole at 0", x.unprobe(), 1);
        due("tell(0)", x.tell(0, 0), 2);
        AntennaHall y = fullNet();
        y.tell(31, 18);
        due("unprobe of 32", y.unprobe(), 1);
        due("tell(31)", y.tell(31, 0), 2);
    }

    // Promise 10: "GATED of i: the sum over j that it passes of FAR of j, times SIGN of i and j (to be taken by
    // n)."
    private static void gates() {
        AntennaHall x = net(2, -6, 1, 3, 0);
        due("gated(1, 2, 2)", x.gated(1, 2, 2), 2);
        due("gated(0, 3, 3)", x.gated(0, 3, 3), -10);
        due("gated(1, 3, 3)", x.gated(1, 3, 3), 10);
        due("all pass", x.gated(0, 0, 31), -24);
        due("v's others do not count", x.gated(1, 2, 31), 2);
        due("figures beyond n are 0", x.gated(0, 4, 0), -24);
        due("none passes", x.gated(0, 16, 16), 0);
        due("gated(0, 31, 2)", x.gated(0, 31, 2), -8);
        due("all of 32 pass", fullNet().gated(31, 0, 0), 32 * 15);
        due("one of 32 passes", fullNet().gated(1, 31, 0), -16);
        due("i 4", x.gated(4, 0, 0), -10000001);
        due("i -1", x.gated(-1, 32, 0), -10000001);
        due("m 32", x.gated(0, 32, 0), -10000002);
        due("m -1", x.gated(0, -1, 0), -10000002);
        due("v 32", x.gated(0, 0, 32), -10000002);
        due("v -1", x.gated(0, 0, -1), -10000002);
    }

    // Promise 11: "The sum of squares of FAR of those j that a GATE passes."
    private static void powers() {
        AntennaHall x = net(2, -6, 1, 3, 0);
        due("power(1, 0)", x.power(1, 0), 68);
        due("power(1, 1)", x.power(1, 1), 116);
        due("power(0, 7)", x.power(0, 7), 184);
        due("power(8, 8)", x.power(8, 8), 0);
        due("power(31, 31)", x.power(31, 31), 0);
        due("m 32", x.power(32, 0), -102);
        due("m -1", x.power(-1, 0), -102);
        due("v 32", x.power(0, 32), -102);
        due("v MIN", x.power(0, MIN), -102);
        AntennaHall y = net(5);
        for (int i = 0; i < 32; i++) {
            y.near(i, i == 0 ? -1000 : 1000);
        }
        due("beyond ints", y.power(0, 0), 32L * 32 * 1000000);
    }

    // Promise 12: "A PLACE is LOST, or not: 1 if it was, else 0."
    private static void losses() {
        AntennaHall x = net(3);
        due("lose(0, true)", x.lose(0, true), 0);
        due("lose(0, true)", x.lose(0, true), 1);
        due("lose(0, false)", x.lose(0, false), 1);
        due("lose(0, false)", x.lose(0, false), 0);
        for (int i = 0; i < 5; i++) {
            due("lose(i, true)", x.lose(i, true), 0);
        }
        due("a sixth", x.lose(5, true), AntennaHall.FULL);
        due("still 5", x.count(1), 5);
        due("no loss of a sixth", x.lose(5, false), 0);
        due("one that is lost already", x.lose(4, true), 1);
        due("a place that is none", x.lose(8, true), AntennaHall.UNKNOWN);
        due("a place that is none", x.lose(-1, false), AntennaHall.UNKNOWN);
        due("found", x.lose(2, false), 1);
        due("room again", x.lose(5, true), 0);
        due("count", x.count(1), 5);
    }

    // Promise 13: "THE MEND: 0 there is none, 1 just one, 2 many."
    private static void mendCounts() {
        AntennaHall x = net(2, 6, -6, -4, 12);
        due("nothing lost, all pass", x.mends(0, 0), 1);
        due("nothing lost, not nothing far away", x.mends(2, 0), 0);
        x.lose(1, true);
        x.lose(2, true);
        due("one", x.mends(2, 0), 1);
        due("many, all pass", x.mends(0, 5), 2);
        due("none, none passes", x.mends(4, 4), 0);
        due("m 32", x.mends(32, 0), AntennaHall.OUTSIDE);
        due("m -1", x.mends(-1, 0), AntennaHall.OUTSIDE);
        due("v 32", x.mends(0, 32), AntennaHall.OUTSIDE);
        due("v -1", x.mends(0, -1), AntennaHall.OUTSIDE);
        AntennaHall y = net(1, 9, 0);
        y.lose(0, true);
        y.lose(1, true);
        due("two lost, one equation", y.mends(1, 0), 2);
        due("two lost, two equations", y.mends(2, 2), 1);
        AntennaHall z = net(3, 1, 0, 0, 0, 2, 0, 0, 0);
        z.lose(0, true);
        z.lose(4, true);
        due("equations that say the same, whole", z.mends(4, 0), 2);
        z.near(1, 1);
        due("equations that say the same, against one another", z.mends(4, 0), 0);
    }

    // Promise 14: "The fraction of a LOST PLACE by THE MEND, in lowest terms: part 0 above, 1 below (above 0)."
    private static void mends() {
        AntennaHall x = net(2, 6, -6, -4, 12);
        x.lose(1, true);
        x.lose(2, true);
        due("above", x.mend(1, 2, 0, 0), 12);
        due("below", x.mend(1, 2, 0, 1), 1);
        due("above", x.mend(2, 2, 0, 0), 6);
        due("near of lost places does not count", x.near(1, 1000), -6);
        due("above", x.mend(1, 2, 0, 0), 12);
        x.near(0, 0);
        due("nothing above", x.mend(2, 2, 0, 0), 0);
        due("1 below", x.mend(2, 2, 0, 1), 1);
        due("not lost", x.mend(0, 2, 0, 0), -9000000000000000001L);
        due("no place", x.mend(4, 2, 0, 0), -9000000000000000001L);
        due("no place", x.mend(-1, 32, 0, 0), -9000000000000000001L);
        due("m 32", x.mend(1, 32, 0, 0), -9000000000000000002L);
        due("v -1", x.mend(1, 0, -1, 0), -9000000000000000002L);
        due("part 2", x.mend(1, 0, 0, 2), -9000000000000000002L);
        due("part -1", x.mend(1, 0, 0, -1), -9000000000000000002L);
        due("many", x.mend(1, 0, 0, 0), -9000000000000000003L);
        due("none", x.mend(1, 4, 4, 0), -9000000000000000003L);
        // Nothing but far(0) may be left, so that all places must be alike.
        AntennaHall y = net(2, 0, 7, 0, 0);
        y.lose(0, true);
        y.lose(2, true);
        y.lose(3, true);
        due("three for three", y.mends(3, 0), 1);
        for (int i : new int[] {0, 2, 3}) {
            due("alike", y.mend(i, 3, 0, 0), 7);
            due("alike, below", y.mend(i, 3, 0, 1), 1);
        }
        // Nothing but far(3) may be left, so that places 1 and 2 are against 0 and 3.
        due("against it", y.mend(0, 3, 3, 0), -7);
        due("against it, below", y.mend(0, 3, 3, 1), 1);
        due("like it", y.mend(2, 3, 3, 0), 7);
        due("against it", y.mend(3, 3, 3, 0), -7);
    }

    private static void mendsOfFive() {
        AntennaHall x = net(5);
        for (int i = 0; i < 32; i++) {
            x.near(i, i < 16 ? 40 + i : -(24 + i));
        }
        int[] lost = {0, 7, 18, 25, 31};
        for (int i : lost) {
            x.lose(i, true);
            x.near(i, 999);
        }
        due("five of 32", x.mends(16, 16), 1);
        for (int i : lost) {
            due("five of 32", x.mend(i, 16, 16, 0), i < 16 ? 40 + i : -(24 + i));
            due("five of 32, below", x.mend(i, 16, 16, 1), 1);
        }
        due("not that figure", x.mends(16, 0), 0);
        x.lose(25, false);
        x.lose(16, true);
        due("both of a kind", x.mends(16, 16), 0);
        x.near(25, -49);
        due("both of a kind", x.mends(16, 16), 2);
        due("both of a kind", x.mend(31, 16, 16, 0), -9000000000000000003L);
        AntennaHall y = net(5);
        for (int i = 0; i < 5; i++) {
            y.lose(i, true);
        }
        due("all pass", y.mends(0, 0), 2);
        due("one passes", y.mends(31, 31), 1);
        due("one passes", y.mend(4, 31, 31, 0), 0);
    }

    // Promise 15: "The SHEET becomes R by C, all of it, CLOSING, TIES 0: how many numbers."
    private static void sheets() {
        AntennaHall x = new AntennaHall();
        due("sheet(2, 1)", x.sheet(2, 1), 2);
        due("sheet(8, 8)", x.sheet(8, 8), 64);
        x.cell(0, 0, 5);
        x.cell(3, 3, 5);
        x.cell(8, 3, 5);
        x.cell(3, 8, 5);
        long before = x.digest();
        int[][] outside = {{1, 1}, {9, 1}, {2, 0}, {2, 9}, {MIN, 1}, {2, MAX}, {-1, -1}};
        for (int[] side : outside) {
            due("sheet(" + side[0] + ", " + side[1] + ")", x.sheet(side[0], side[1]), AntennaHall.OUTSIDE);
        }
        due("nothing changed", x.digest(), before);
        due("sheet(8, 8)", x.sheet(8, 8), 64);
        due("all 0", x.cell(0, 0, 0), 0);
        due("all 0", x.cell(3, 3, 0), 0);
        due("closing 0", x.cell(8, 3, 0), 0);
        due("ties 0", x.cell(3, 8, 0), 0);
        due("sheet(5, 3)", x.sheet(5, 3), 15);
        due("rows", x.count(3), 5);
        due("columns", x.count(4), 3);
    }

    // Promise 16: "A number of the SHEET (row R: CLOSING; column C: TIES, not of row R) becomes v: what it was."
    private static void cells() {
        AntennaHall x = new AntennaHall();
        x.sheet(3, 2);
        due("cell(0, 0, 1000)", x.cell(0, 0, 1000), 0);
        due("cell(0, 0, -1000)", x.cell(0, 0, -1000), 1000);
        due("cell(0, 0, 1001)", x.cell(0, 0, 1001), -10102);
        due("cell(0, 0, -1001)", x.cell(0, 0, -1001), -10102);
        due("cell(0, 0, 1)", x.cell(0, 0, 1), -1000);
        due("closing", x.cell(3, 1, 4), 0);
        due("closing", x.cell(3, 1, 5), 4);
        due("tie", x.cell(2, 2, 6), 0);
        due("tie", x.cell(2, 2, 7), 6);
        due("no tie of closing", x.cell(3, 2, 0), -10101);
        due("row 4", x.cell(4, 0, 0), -10101);
        due("row -1", x.cell(-1, 0, 0), -10101);
        due("column 3", x.cell(0, 3, 0), -10101);
        due("column -1", x.cell(0, -1, 1001), -10101);
        due("row MAX", x.cell(MAX, MAX, MAX), -10101);
    }

    // Promise 17: "CLOSED: the r-th row less D times r by R, rounded down (D, of each column, CLOSING less row
    // 0)."
    private static void closings() {
        AntennaHall x = new AntennaHall();
        x.sheet(3, 2);
        x.cell(0, 1, 10);
        x.cell(1, 1, 14);
        x.cell(2, 1, 15);
        x.cell(3, 1, 20);
        due("row 0", x.closed(0, 1), 10);
        due("10 thirds rounded down", x.closed(1, 1), 11);
        due("20 thirds rounded down", x.closed(2, 1), 9);
        due("closing", x.closed(3, 1), 10);
        x.cell(3, 1, 0);
        due("10 thirds below 0, rounded down", x.closed(1, 1), 18);
        due("20 thirds below 0, rounded down", x.closed(2, 1), 22);
        due("closing", x.closed(3, 1), 10);
        due("another column", x.closed(1, 0), 0);
        due("row 4", x.closed(4, 0), -10101);
        due("row -1", x.closed(-1, 0), -10101);
        due("column 2", x.closed(0, 2), -10101);
        due("column -1", x.closed(0, -1), -10101);
    }

    // Promise 18: "TIED: each row and, throughout, what its TIE is more than its column 0."
    private static void ties() {
        AntennaHall x = new AntennaHall();
        x.sheet(3, 2);
        x.cell(1, 0, 4);
        x.cell(1, 1, 14);
        x.cell(1, 2, 6);
        due("tied(1, 0)", x.tied(1, 0), 6);
        due("tied(1, 1)", x.tied(1, 1), 16);
        due("tied(0, 1)", x.tied(0, 1), 0);
        due("closing", x.tied(3, 0), -10101);
        due("row -1", x.tied(-1, 0), -10101);
        due("column 2", x.tied(1, 2), -10101);
        due("column -1", x.tied(1, -1), -10101);
        due("tied(2, 0)", x.tied(2, 0), 0);
    }

    // Promise 19: "m antennas, nothing measured: m."
    private static void antennas() {
        AntennaHall x = new AntennaHall();
        due("antennas(5)", x.antennas(5), 5);
        x.together(3, 4, 8, true);
        x.together(0, 1, 8, true);
        due("antennas(2)", x.antennas(2), AntennaHall.OUTSIDE);
        due("antennas(6)", x.antennas(6), AntennaHall.OUTSIDE);
        due("antennas(MIN)", x.antennas(MIN), AntennaHall.OUTSIDE);
        due("nothing changed", x.count(6), 2);
        due("antennas(5)", x.antennas(5), 5);
        due("nothing measured", x.count(6), 0);
        due("nothing measured", x.together(4, 3, 0, false), 0);
        due("antennas(3)", x.antennas(3), 3);
        due("count(5)", x.count(5), 3);
    }

    // Promise 20: "What a and b have together becomes v, or is not measured (is false): 1 if it was measured, else
    // 0."
    private static void pairs() {
        AntennaHall x = new AntennaHall();
        due("together(0, 1)", x.together(0, 1, 10000, true), 0);
        due("together(1, 0)", x.together(1, 0, -10000, true), 1);
        due("one pair", x.count(6), 1);
        due("beyond", x.together(0, 1, 10001, true), AntennaHall.OUTSIDE);
        due("beyond", x.together(0, 1, -10001, true), AntennaHall.OUTSIDE);
        due("beyond, not measured", x.together(0, 1, 10001, false), AntennaHall.OUTSIDE);
        due("alike", x.together(1, 1, 10001, true), AntennaHall.UNKNOWN);
        due("a 3", x.together(3, 1, 0, true), AntennaHall.UNKNOWN);
        due("b 3", x.together(1, 3, 0, true), AntennaHall.UNKNOWN);
        due("a -1", x.together(-1, 1, 0, true), AntennaHall.UNKNOWN);
        due("b MIN", x.together(1, MIN, 0, true), AntennaHall.UNKNOWN);
        due("still one", x.count(6), 1);
        due("not measured", x.together(0, 1, 0, false), 1);
        due("not measured", x.together(0, 1, 0, false), 0);
        due("none", x.count(6), 0);
    }

    private static AntennaHall fiveAntennas() {
        AntennaHall x = new AntennaHall();
        x.antennas(5);
        x.together(0, 1, 300, true);
        x.together(0, 2, 310, true);
        x.together(1, 2, 290, true);
        x.together(0, 3, 280, true);
        x.together(1, 3, 262, true);
        return x;
    }

    // Promise 21: "The gain of a, twice, by its first THREE that is whole (b below c, the least b first, then the
    // least c)"
    private static void gains() {
        AntennaHall x = fiveAntennas();
        due("gain(0)", x.gain(0), 320);
        due("gain(1)", x.gain(1), 280);
        due("gain(2)", x.gain(2), 300);
        due("gain(3)", x.gain(3), 242);
        due("gain(4)", x.gain(4), -1000003);
        due("gain(5)", x.gain(5), -1000001);
        due("gain(-1)", x.gain(-1), -1000001);
        x.together(2, 3, 5, true);
        due("the least b first, then the least c", x.gain(3), 242);
        x.together(0, 1, 0, false);
        due("the first three that is whole", x.gain(0), 585);
        x.together(0, 2, 0, false);
        due("none is whole", x.gain(0), -1000003);
        due("gain(3)", x.gain(3), -23);
    }

    // Promise 22: "LOOSE: the greatest difference of such numbers of one antenna."
    private static void loosenesses() {
        AntennaHall x = fiveAntennas();
        due("loose", x.loose(), 2);
        x.together(0, 4, 100, true);
        due("loose, no more threes", x.loose(), 2);
        x.together(1, 4, -10000, true);
        due("loose", x.loose(), 10400 - 318);
        x.together(2, 3, 0, true);
        x.together(2, 4, 0, true);
        x.together(3, 4, 0, true);
        due("all pairs", x.count(6), 10);
        due("loose, of antenna 1 by 2, 3 and 0, 4", x.loose(), 552 + 9800);
        AntennaHall y = new AntennaHall();
        due("nothing measured", y.loose(), AntennaHall.NONE);
        y.together(0, 1, 5, true);
        y.together(1, 2, 5, true);
        due("two pairs", y.loose(), AntennaHall.NONE);
        y.together(0, 2, 7, true);
        due("one three", y.loose(), 0);
    }

    // Promise 23: "FAR of j is MEASURED as v, or not at all (is false): 1 if it was measured, else 0."
    private static void measurements() {
        AntennaHall x = net(1);
        due("measure(0)", x.measure(0, 1000000, true), 0);
        due("measure(0)", x.measure(0, -1000000, true), 1);
        due("count", x.count(2), 1);
        due("beyond", x.measure(0, 1000001, true), AntennaHall.OUTSIDE);
        due("beyond", x.measure(0, -1000001, true), AntennaHall.OUTSIDE);
        due("beyond, not measured", x.measure(0, 1000001, false), AntennaHall.OUTSIDE);
        due("j 2", x.measure(2, 1000001, true), AntennaHall.UNKNOWN);
        due("j -1", x.measure(-1, 0, false), AntennaHall.UNKNOWN);
        due("not measured", x.measure(0, 0, false), 1);
        due("not measured", x.measure(0, 0, false), 0);
        due("count", x.count(2), 0);
    }

    // Promise 24: "What is off at j: MEASURED less FAR. A FAULT of one ELEMENT i by x: what is off at each
    // measured j is x times SIGN of i and j, x not 0."
    private static void faultCounts() {
        AntennaHall x = net(2, 1, 2, 3, 4);
        due("nothing measured", x.faults(), AntennaHall.NONE);
        x.measure(0, 10, true);
        due("nothing off", x.faults(), AntennaHall.NONE);
        x.measure(1, 3, true);
        due("off at 1, not at 0", x.faults(), 0);
        x.measure(0, 15, true);
        due("off by 5 and 5", x.faults(), 2);
        x.measure(2, -9, true);
        due("off by 5, 5 and -5", x.faults(), 1);
        x.measure(2, -4, true);
        due("off by 5, 5 and 0", x.faults(), 0);
        x.measure(0, 10, false);
        x.measure(1, 3, false);
        due("one measured, nothing off", x.faults(), AntennaHall.NONE);
        x.measure(2, -5, true);
        due("one measured, off", x.faults(), 4);
        x.measure(2, -4, true);
        x.measure(0, 11, true);
        due("off at 0 alone", x.faults(), 0);
        AntennaHall y = fullNet();
        y.measure(31, 7, true);
        due("any of 32", y.faults(), 32);
        due("the last of them", y.fault(31), 31);
        y.measure(31, 0, true);
        due("nothing of 32 is off", y.faults(), AntennaHall.NONE);
    }

    // Promise 25: "The k-th of them; NONE."
    private static void faultElements() {
        AntennaHall x = net(2, 1, 2, 3, 4);
        due("none", x.fault(0), AntennaHall.NONE);
        x.measure(0, 15, true);
        x.measure(1, -7, true);
        due("the first", x.fault(0), 1);
        due("the second", x.fault(1), 3);
        due("no third", x.fault(2), AntennaHall.NONE);
        due("k -1", x.fault(-1), AntennaHall.NONE);
        due("k MIN", x.fault(MIN), AntennaHall.NONE);
        due("k MAX", x.fault(MAX), AntennaHall.NONE);
        x.measure(3, 5, true);
        due("the only one", x.fault(0), 3);
        due("no second", x.fault(1), AntennaHall.NONE);
    }

    // Promise 26: "Its x; 0: there is none."
    private static void faultSizes() {
        AntennaHall x = net(2, 1, 2, 3, 4);
        due("none", x.by(0), 0);
        x.measure(3, 7, true);
        due("element 0", x.by(0), 7);
        due("element 1", x.by(1), -7);
        due("element 2", x.by(2), -7);
        due("element 3", x.by(3), 7);
        due("no more", x.by(4), 0);
        due("k -1", x.by(-1), 0);
        due("k MAX", x.by(MAX), 0);
        x.measure(1, -9, true);
        due("element 2", x.by(0), -7);
        due("element 3", x.by(1), 7);
        due("no more", x.by(2), 0);
    }

    // Promise 27: "The LIMIT of j becomes v: what it was."
    private static void limits() {
        AntennaHall x = net(1);
        due("limit(0, 0)", x.limit(0, 0), 100000);
        due("limit(0, 100000)", x.limit(0, 100000), 0);
        due("limit(0, 100001)", x.limit(0, 100001), AntennaHall.OUTSIDE);
        due("limit(0, -1)", x.limit(0, -1), AntennaHall.OUTSIDE);
        due("limit(2, -1)", x.limit(2, -1), AntennaHall.UNKNOWN);
        due("limit(-1, 0)", x.limit(-1, 0), AntennaHall.UNKNOWN);
        due("limit(1, 7)", x.limit(1, 7), 100000);
        due("limit(1, 8)", x.limit(1, 8), 7);
    }

    // Promise 28: "The first j where FAR is beyond its LIMIT; NONE."
    private static void breaks() {
        AntennaHall x = net(2, -6, 1, 3, 0);
        due("none", x.broken(), AntennaHall.NONE);
        x.limit(3, 9);
        due("the last, without its sign", x.broken(), 3);
        x.limit(3, 10);
        due("just at it", x.broken(), AntennaHall.NONE);
        x.limit(3, 0);
        x.limit(1, 3);
        due("the first", x.broken(), 1);
        x.near(0, 20);
        x.limit(0, 23);
        due("above 0", x.broken(), 0);
        AntennaHall y = fullNet();
        due("none of 32", y.broken(), AntennaHall.NONE);
        y.limit(31, 0);
        due("0 is not beyond 0", y.broken(), AntennaHall.NONE);
        y.near(5, 0);
        due("the last", y.broken(), 31);
    }

    // Promise 29: "A DOUBT: how many."
    private static void doubts() {
        AntennaHall x = new AntennaHall();
        due("doubt(-1)", x.doubt(-1), AntennaHall.OUTSIDE);
        due("doubt(10001)", x.doubt(10001), AntennaHall.OUTSIDE);
        for (int d = 1; d <= 18; d++) {
            due("doubt", x.doubt(d % 2 * 10000), d);
        }
        due("a nineteenth", x.doubt(0), AntennaHall.FULL);
        due("outside comes first", x.doubt(MIN), AntennaHall.OUTSIDE);
        due("count", x.count(7), 18);
    }

    // Promise 30: "what = 0 their sum, 1 the root of the sum of their squares, rounded up, 2 the greatest."
    private static void budgets() {
        AntennaHall x = new AntennaHall();
        for (int what = 0; what <= 2; what++) {
            due("nothing yet", x.budget(what), 0);
        }
        x.doubt(30);
        x.doubt(40);
        due("sum", x.budget(0), 70);
        due("root", x.budget(1), 50);
        due("greatest", x.budget(2), 40);
        x.doubt(1);
        due("root, rounded up", x.budget(1), 51);
        x.sure();
        x.doubt(50);
        x.doubt(40);
        due("the first is the greatest", x.budget(2), 50);
        due("what 3", x.budget(3), AntennaHall.OUTSIDE);
        due("what -1", x.budget(-1), AntennaHall.OUTSIDE);
        x.sure();
        x.doubt(1);
        due("root of 1", x.budget(1), 1);
        x.sure();
        for (int d = 0; d < 18; d++) {
            x.doubt(10000);
        }
        due("greatest sum", x.budget(0), 180000);
        due("greatest root", x.budget(1), 42427);
        for (int v = 0; v <= 10000; v += 99) {
            AntennaHall y = new AntennaHall();
            y.doubt(v);
            due("root of a square", y.budget(1), v);
        }
    }

    // Promise 31: "No DOUBTS: how many there were."
    private static void sures() {
        AntennaHall x = new AntennaHall();
        due("none", x.sure(), 0);
        x.doubt(5);
        x.doubt(6);
        due("two", x.sure(), 2);
        due("none", x.count(7), 0);
        due("none", x.budget(0), 0);
        due("the first again", x.doubt(1), 1);
    }

    // Promise 32: "How many: 0 n, 1 LOST PLACES, 2 MEASURED ones, 3 rows of the SHEET, 4 its columns, 5 antennas,
    // 6 pairs measured, 7 DOUBTS."
    private static void counts() {
        AntennaHall x = net(4);
        x.lose(3, true);
        x.lose(15, true);
        for (int j = 0; j < 6; j++) {
            x.measure(2 * j, j, true);
        }
        x.sheet(7, 8);
        x.antennas(4);
        x.together(0, 3, 0, true);
        x.together(2, 1, 0, true);
        x.together(2, 3, 0, true);
        x.doubt(1);
        long[] want = {16, 2, 6, 7, 8, 4, 3, 1};
        for (int what = 0; what < want.length; what++) {
            due("count(" + what + ")", x.count(what), want[what]);
        }
        due("count(8)", x.count(8), AntennaHall.OUTSIDE);
        due("count(-1)", x.count(-1), AntennaHall.OUTSIDE);
        due("count(MIN)", x.count(MIN), AntennaHall.OUTSIDE);
    }

    // Promise 33: "n; of each PLACE NEAR, its PROBE's, the row at hand's number, 1 if LOST, else 0, 1 and
    // MEASURED, or 0, its LIMIT; R, C, rows of the SHEET, CLOSING, TIES; m, of each pair a below b, by a, then b,
    // 1 and what was measured, or 0; DOUBTS."
    private static void digests() {
        AntennaHall x = net(1, 5, -6);
        x.probe(1, -2);
        x.tell(0, 77);
        x.lose(1, true);
        x.measure(0, -8, true);
        x.limit(1, 12);
        x.sheet(2, 2);
        for (int c = 0; c < 8; c++) {
            x.cell(c / 3, c % 3, c + 1);
        }
        x.together(2, 0, -9, true);
        x.doubt(3);
        x.doubt(0);
        due("digest", x.digest(), digestOf(2, 5, 1, 77, 0, 1, -8, 100000, -6, -2, 0, 1, 0, 12,
            2, 2, 1, 2, 4, 5, 7, 8, 3, 6, 3, 0, 1, -9, 0, 3, 0));
        x.sure();
        x.together(0, 2, 0, false);
        x.measure(0, 0, false);
        due("digest", x.digest(), digestOf(2, 5, 1, 77, 0, 0, 100000, -6, -2, 0, 1, 0, 12,
            2, 2, 1, 2, 4, 5, 7, 8, 3, 6, 3, 0, 0, 0));
    }

    private static void firstHalf(int number) {
        switch (number) {
            case 1: aNewObject(); break;
            case 2: nets(); break;
            case 3: nears(); break;
            case 4: fars(); break;
            case 5: backs(); break;
            case 6: tells(); break;
            case 7: probes(); break;
            case 8: seens(); break;
            case 9: unprobes(); break;
            case 10: gates(); break;
            case 11: powers(); break;
            case 12: losses(); break;
            case 13: mendCounts(); break;
            case 14: mends(); mendsOfFive(); break;
            case 15: sheets(); break;
            case 16: cells(); break;
            default: break;
        }
    }

    private static void secondHalf(int number) {
        switch (number) {
            case 17: closings(); break;
            case 18: ties(); break;
            case 19: antennas(); break;
            case 20: pairs(); break;
            case 21: gains(); break;
            case 22: loosenesses(); break;
            case 23: measurements(); break;
            case 24: faultCounts(); break;
            case 25: faultElements(); break;
            case 26: faultSizes(); break;
            case 27: limits(); break;
            case 28: breaks(); break;
            case 29: doubts(); break;
            case 30: budgets(); break;
            case 31: sures(); break;
            case 32: counts(); break;
            case 33: digests(); break;
            default: break;
        }
    }

    public static void main(String[] args) {
        for (promise = 1; promise <= 33; promise++) {
            firstHalf(promise);
            secondHalf(promise);
        }
        System.out.println(wrong == 0 ? "all promises are kept" : wrong + " answers are not as due");
        if (wrong != 0) {
            System.exit(1);
        }
    }
}
