/** Boundary cases of promises 27 to 37: sheets, bodies and kinds of places, trace, fault, many. */
public final class EdgesOfSheetsTest {
    private static final int UNKNOWN = Edges.UNKNOWN, OUTSIDE = Edges.OUTSIDE;
    private static final int NULL = Edges.NULL, CAST = Edges.CAST, INDEX = Edges.INDEX, SIZE = Edges.SIZE;
    private static final int LEAST = Edges.LEAST, MOST = Edges.MOST, KEPT = Edges.KEPT;
    private static final long LOST = Edges.LOST;

    private static void due(String sentence, long got, long want) {
        Edges.due(sentence, got, want);
    }

    private static void refused(String sentence, Edges.Call call, long answer, int fault) {
        Edges.leavesAll(sentence, Edges::worn, call, answer, fault);
    }

    /** Behind a FAULT that was there, so that a call that came to none is seen to say so. */
    private static void taken(String sentence, BarFigures x, Edges.Call call, long answer) {
        x.sheet(0, 0, -1);
        due("the fault ahead", x.fault(), 4);
        due(sentence, call.on(x), answer);
        due(sentence + ", then fault()", x.fault(), 0);
    }

    private static void sheetRefusals() {
        for (int bad : new int[] {-1, LEAST, MOST}) {
            refused("27 no SHEET " + bad, x -> x.sheet(bad, 0, 0), UNKNOWN, 0);
            refused("27 no LANE " + bad, x -> x.sheet(0, bad, 0), OUTSIDE, 0);
        }
        refused("27 no SHEET 4", x -> x.sheet(4, 0, 0), UNKNOWN, 0);
        refused("27 no LANE 3", x -> x.sheet(0, 3, 0), OUTSIDE, 0);
        for (int lane = 0; lane < 3; lane++) {
            int of = lane;
            refused("27 n above 60", x -> x.sheet(of, of, 61), OUTSIDE, 0);
            refused("27 n above 60", x -> x.sheet(3, of, MOST), OUTSIDE, 0);
            refused("27 SIZE", x -> x.sheet(of, of, -1), SIZE, 4);
            refused("27 SIZE", x -> x.sheet(3, of, LEAST), SIZE, 4);
        }
        refused("27 UNKNOWN ahead of OUTSIDE lane", x -> x.sheet(4, 3, 0), UNKNOWN, 0);
        refused("27 UNKNOWN ahead of OUTSIDE n", x -> x.sheet(4, 0, 61), UNKNOWN, 0);
        refused("27 UNKNOWN ahead of SIZE", x -> x.sheet(4, 0, -1), UNKNOWN, 0);
        refused("27 OUTSIDE lane ahead of SIZE", x -> x.sheet(0, 3, -1), OUTSIDE, 0);
        refused("27 OUTSIDE lane ahead of SIZE", x -> x.sheet(0, -1, LEAST), OUTSIDE, 0);
    }

    private static void sheetEdges() {
        for (int k = 0; k < 4; k++) {
            for (int lane = 0; lane < 3; lane++) {
                int of = k;
                int as = lane;
                BarFigures x = new BarFigures();
                taken("27 the least row", x, y -> y.sheet(of, as, 0), 1);
                due("27 it has no cell", x.cell(k, 0, lane), LOST);
                due("27 it has no cell, but it is a row of that LANE", x.fault(), 3);
                taken("27 the greatest row", x, y -> y.sheet(of, as, 60), 1);
                for (int i = 0; i < 60; i++) {
                    due("5 0 at first", x.cell(k, i, lane), 0);
                    x.put(k, i, i + 1);
                }
                due("27 60 cells, not 61", x.cell(k, 60, lane), LOST);
                due("27 60 cells, not 61", x.fault(), 3);
                int other = (lane + 1) % 3;
                taken("27 a new row of another LANE", x, y -> y.sheet(of, other, 60), 1);
                for (int i = 0; i < 60; i++) {
                    due("5 0 at first, of a new row, too", x.cell(k, i, other), 0);
                }
                due("27 another LANE", x.cell(k, 0, lane), LOST);
                due("27 another LANE", x.fault(), 2);
            }
        }
        BarFigures x = Edges.bare();
        taken("27 a shorter row, then a longer one", x, y -> y.sheet(1, 1, 2) + y.sheet(1, 1, 6), 2);
        due("5 0 at first where an old row had more", x.cell(1, 0, 1) + x.cell(1, 3, 1), 0);
        due("27 the other SHEETS have what they had", x.cell(0, 0, 0), 'p');
        due("27 the other SHEETS have what they had", x.cell(2, 0, 2), 1000);
    }

    private static void loseEdges() {
        for (int k : new int[] {-1, 4, LEAST, MOST}) {
            refused("28 no SHEET " + k, x -> x.lose(k), UNKNOWN, KEPT);
        }
        refused("28 it had nothing", x -> x.lose(3), 0, KEPT);
        BarFigures x = Edges.bare();
        for (int k = 0; k < 3; k++) {
            x.sheet(0, 0, -1);
            due("28 it had a row", x.lose(k), 1);
            due("28 lose names no FAULT", x.fault(), 4);
            due("28 it has nothing", x.put(k, 0, 0), NULL);
            due("28 it had nothing", x.lose(k), 0);
        }
        x = Edges.bare();
        x.sheet(3, 2, 0);
        due("28 a row of no cells is a row", x.lose(3), 1);
        due("28 that is lost", x.lose(3), 0);
        x.lose(2);
        due("28 the others have what they had", x.cell(1, 3, 1), 79);
        due("28 a new row", x.sheet(2, 2, 3), 1);
        due("5 0 at first", x.cell(2, 0, 2), 0);
        x = Edges.worn();
        x.lose(0);
        due("28 the PANEL stays", x.many(0), 3);
    }

    private static void putRefusals() {
        for (int k : new int[] {-1, 4, LEAST, MOST}) {
            refused("29 no SHEET " + k, x -> x.put(k, 0, 1), UNKNOWN, 0);
            refused("29 UNKNOWN ahead of INDEX " + k, x -> x.put(k, -1, 1), UNKNOWN, 0);
        }
        refused("29 NULL", x -> x.put(3, 0, 1), NULL, 1);
        int[] sizes = {11, 6, 3};
        for (int k = 0; k < 3; k++) {
            int of = k;
            for (int i : new int[] {-1, sizes[k], sizes[k] + 1, 59, 60, LEAST, MOST}) {
                refused("29 INDEX " + i, x -> x.put(of, i, 1), INDEX, 3);
                refused("29 NULL ahead of INDEX " + i, x -> x.put(3, i, 1), NULL, 1);
            }
        }
        Edges.leavesAll("29 INDEX of no cells", EdgesOfSheetsTest::noCells, x -> x.put(2, 0, 1), INDEX, 3);
    }

    private static BarFigures noCells() {
        BarFigures x = Edges.worn();
        x.sheet(2, 2, 0);
        return x;
    }

    private static void putEdges() {
        int[] values = {0, 1, -1, 127, 128, 129, 255, 256, -128, -129, -256, 32767, 32768, 65535, 65536, -32768, -32769,
            MOST, LEAST, MOST - 127, LEAST + 128};
        int[] bytes = {0, 1, -1, 127, -128, -127, -1, 0, -128, 127, 0, -1, 0, -1, 0, 0, -1, -1, 0, -128, -128};
        int[] shorts = {0, 1, -1, 127, 128, 129, 255, 256, -128, -129, -256, 32767, -32768, -1, 0, -32768, 32767,
            -1, 0, -128, 128};
        int[][] cut = {bytes, shorts, values};
        for (int lane = 0; lane < 3; lane++) {
            BarFigures x = new BarFigures();
            x.sheet(2, lane, 60);
            for (int v = 0; v < values.length; v++) {
                int value = values[v];
                taken("29 the first cell", x, y -> y.put(2, 0, value), 1);
                taken("29 the last cell", x, y -> y.put(2, 59, value), 1);
                due("5 cut to LANE " + lane + " with its sign: " + value, x.cell(2, 0, lane), cut[lane][v]);
                due("5 cut to LANE " + lane + " with its sign: " + value, x.cell(2, 59, lane), cut[lane][v]);
                due("29 no other cell", x.cell(2, 1, lane), 0);
            }
        }
    }

    private static void cellRefusals() {
        for (int bad : new int[] {-1, LEAST, MOST}) {
            refused("30 no SHEET " + bad, x -> x.cell(bad, 0, 0), LOST, 0);
            refused("30 no LANE " + bad, x -> x.cell(0, 0, bad), LOST, 0);
            refused("30 UNKNOWN and INDEX", x -> x.cell(bad, -1, 0), LOST, 0);
            refused("30 OUTSIDE ahead of NULL " + bad, x -> x.cell(3, 0, bad), LOST, 0);
            refused("30 OUTSIDE ahead of INDEX " + bad, x -> x.cell(0, -1, bad), LOST, 0);
        }
        refused("30 no SHEET 4", x -> x.cell(4, 0, 0), LOST, 0);
        refused("30 no LANE 3", x -> x.cell(0, 0, 3), LOST, 0);
        int[] sizes = {11, 6, 3};
        long[] lasts = {'0', 128, -1};
        for (int k = 0; k < 3; k++) {
            int of = k;
            refused("30 the last cell", x -> x.cell(of, sizes[of] - 1, of), lasts[of], 0);
            for (int i : new int[] {-1, sizes[k], 59, 60, LEAST, MOST}) {
                refused("30 INDEX " + i, x -> x.cell(of, i, of), LOST, 3);
                refused("30 CAST ahead of INDEX " + i, x -> x.cell(of, i, (of + 1) % 3), LOST, 2);
                refused("30 NULL ahead of INDEX " + i, x -> x.cell(3, i, of), LOST, 1);
            }
            for (int lane = 0; lane < 3; lane++) {
                int as = lane;
                refused("30 CAST", x -> x.cell(of, 0, as) == LOST ? 1 : 0, of == as ? 0 : 1, of == as ? 0 : 2);
                refused("30 nothing is no CAST", x -> x.cell(3, 0, as), LOST, 1);
            }
        }
        Edges.leavesAll("30 INDEX of no cells", EdgesOfSheetsTest::noCells, x -> x.cell(2, 0, 2), LOST, 3);
        BarFigures x = new BarFigures();
        Edges.row(x, 0, 2, LEAST, MOST);
        taken("30 the least int is no LOST", x, y -> y.cell(0, 0, 2), (long) LEAST);
        taken("30 the greatest int", x, y -> y.cell(0, 1, 2), MOST);
    }

    private static void copyRefusals() {
        for (int bad : new int[] {-1, 4, LEAST, MOST}) {
            refused("31 no first SHEET " + bad, x -> x.copy(bad, 0, 0, 0, 1), UNKNOWN, 0);
            refused("31 no other SHEET " + bad, x -> x.copy(0, 0, bad, 0, 1), UNKNOWN, 0);
            refused("31 other UNKNOWN ahead of first NULL " + bad, x -> x.copy(3, 0, bad, 0, 1), UNKNOWN, 0);
            refused("31 UNKNOWN ahead of other NULL " + bad, x -> x.copy(bad, 0, 3, 0, 1), UNKNOWN, 0);
            refused("31 UNKNOWN ahead of INDEX " + bad, x -> x.copy(0, -1, bad, 0, 1), UNKNOWN, 0);
        }
        refused("31 NULL, the first", x -> x.copy(3, 0, 0, 0, 0), NULL, 1);
        refused("31 NULL, the other", x -> x.copy(0, 0, 3, 0, 0), NULL, 1);
        refused("31 NULL, both", x -> x.copy(3, 0, 3, 0, 0), NULL, 1);
        refused("31 NULL ahead of INDEX, the first", x -> x.copy(3, -1, 0, 0, -1), NULL, 1);
        refused("31 NULL ahead of INDEX, the other", x -> x.copy(0, -1, 3, 0, -1), NULL, 1);
        for (int k = 0; k < 3; k++) {
            int of = k;
            refused("31 CAST of unlike LANES", x -> x.copy(of, 0, (of + 1) % 3, 0, 1), CAST, 2);
            refused("31 CAST of no cells, too", x -> x.copy(of, 0, (of + 2) % 3, 0, 0), CAST, 2);
            refused("31 CAST ahead of INDEX i", x -> x.copy(of, -1, (of + 1) % 3, 0, 1), CAST, 2);
            refused("31 CAST ahead of INDEX j", x -> x.copy(of, 0, (of + 1) % 3, 99, 1), CAST, 2);
            refused("31 CAST ahead of INDEX n", x -> x.copy(of, 0, (of + 1) % 3, 0, -1), CAST, 2);
        }
        int[][] beyond = {{-1, 0, 0}, {7, 0, 0}, {0, -1, 0}, {0, 5, 0}, {0, 0, -1}, {0, 0, 5}, {0, 1, 4}, {3, 0, 4}, {6, 0, 1},
            {0, 4, 1}, {-1, 0, 1}, {0, -1, 1}, {LEAST, 0, 1}, {0, LEAST, 1}, {0, 0, LEAST}, {MOST, 0, 1}, {0, MOST, 1},
            {0, 0, MOST}, {1, 0, MOST}, {0, 1, MOST}, {MOST, MOST, MOST}, {LEAST, LEAST, LEAST}, {-1, -1, MOST}, {1, 1, LEAST},
            {6, 0, -1}, {0, 4, -1}, {-1, 0, -1}};
        for (int[] c : beyond) {
            Edges.leavesAll("31 INDEX " + c[0] + " " + c[1] + " " + c[2], EdgesOfSheetsTest::twoOfShorts,
                x -> x.copy(1, c[0], 2, c[1], c[2]), INDEX, 3);
        }
        Edges.leavesAll("31 none from end to end", EdgesOfSheetsTest::twoOfShorts, x -> x.copy(1, 6, 2, 4, 0), 0, 0);
        Edges.leavesAll("31 none from 0 to 0", EdgesOfSheetsTest::twoOfShorts, x -> x.copy(1, 0, 2, 0, 0), 0, 0);
        Edges.leavesAll("31 all onto itself", EdgesOfSheetsTest::twoOfShorts, x -> x.copy(1, 0, 1, 0, 6), 6, 0);
        Edges.leavesAll("31 beyond itself", EdgesOfSheetsTest::twoOfShorts, x -> x.copy(1, 0, 1, 1, 6), INDEX, 3);
    }

    /** SHEET 1 has six shorts, SHEET 2 four. */
    private static BarFigures twoOfShorts() {
        BarFigures x = Edges.worn();
        Edges.row(x, 2, 1, -1, -2, -3, -4);
        return x;
    }

    private static void dueCells(String sentence, BarFigures x, int sheet, int lane, int... cells) {
        for (int i = 0; i < cells.length; i++) {
            due("31 " + sentence + ", cell " + i, x.cell(sheet, i, lane), cells[i]);
        }
    }

    private static void copyEdges() {
        BarFigures x = twoOfShorts();
        taken("31 as many as the other has, the last of the first", x, y -> y.copy(1, 2, 2, 0, 4), 4);
        dueCells("to the other", x, 2, 1, 91, 79, 0, 128);
        dueCells("the first is as it was", x, 1, 1, 63, 6, 91, 79, 0, 128);
        x = twoOfShorts();
        taken("31 all of the first to the end of the other", x, y -> y.copy(2, 0, 1, 2, 4), 4);
        dueCells("just those", x, 1, 1, 63, 6, -1, -2, -3, -4);
        x = twoOfShorts();
        taken("31 one, the last to the last", x, y -> y.copy(1, 5, 2, 3, 1), 1);
        dueCells("just that", x, 2, 1, -1, -2, -3, 128);
        x = twoOfShorts();
        taken("31 upwards in one row, as they were", x, y -> y.copy(1, 0, 1, 1, 5), 5);
        dueCells("upwards", x, 1, 1, 63, 63, 6, 91, 79, 0);
        x = twoOfShorts();
        taken("31 downwards in one row, as they were", x, y -> y.copy(1, 1, 1, 0, 5), 5);
        dueCells("downwards", x, 1, 1, 6, 91, 79, 0, 128, 128);
        for (int lane = 0; lane < 3; lane++) {
            x = new BarFigures();
            x.sheet(1, lane, 60);
            x.sheet(2, lane, 60);
            for (int i = 0; i < 60; i++) {
                x.put(1, i, i - 30);
            }
            taken("31 the most cells", x, y -> y.copy(1, 0, 2, 0, 60), 60);
            for (int i = 0; i < 60; i++) {
                due("31 the most cells, " + i, x.cell(2, i, lane), i - 30);
            }
        }
    }

    private static void bodyEdges() {
        for (int k : new int[] {-1, 3, LEAST, MOST}) {
            refused("32 no PLACE " + k + ", and nothing is left in TRACE", x -> x.tell(k), UNKNOWN, KEPT);
            refused("33 no PLACE " + k + ", and nothing is left in TRACE", x -> x.hum(k), UNKNOWN, KEPT);
        }
        Edges.leavesAll("32 no PLACES", Edges::bare, x -> x.tell(0), UNKNOWN, KEPT);
        Edges.leavesAll("33 no PLACES", Edges::bare, x -> x.hum(0), UNKNOWN, KEPT);
        int[][] told = {{0, 127}, {100, 227}, {100, 354}};
        int[] traces = {1, 2 * 31 + 1, ((3 * 31 + 2) * 31 + 1) * 31 + 1};
        for (int kind = 0; kind < 3; kind++) {
            for (int full = 0; full < 2; full++) {
                BarFigures x = Edges.with("p09;" + "fmt".charAt(kind) + (full == 0 ? "000000" : "127000"));
                due("32 kind " + kind + ", no bar or all DEAD", x.tell(0), told[kind][full]);
                due("35 kind " + kind, x.trace(), traces[kind]);
            }
        }
        BarFigures x = Edges.with("p09;f000000;m000000;f000000;m000000");
        int trace = 0;
        for (int k = 0; k < 4; k++) {
            due("33 the PLACE's number, the least to the greatest", x.hum(k), k);
            trace = 31 * trace + 4;
            due("35 the lent body", x.trace(), trace);
        }
        x = Edges.with("p09;t000000;f000000;f000000;t000000");
        due("33 TURNED: its own, at the least PLACE", x.hum(0), 60);
        due("33 TURNED: its own, at the greatest PLACE", x.hum(3), 60);
        due("35 its own body, twice", x.trace(), 5 * 31 + 5);
        x.kill(0, 127);
        due("32 by DEAD as it is now", x.tell(0), 354);
    }

    private static void traceWraps() {
        BarFigures x = Edges.with("p09;t000000");
        // 5, 160, 4965, .. as exact numbers: the seventh is above the greatest int
        long exact = 0;
        for (int t = 0; t < 7; t++) {
            x.hum(0);
            exact = exact * 31 + 5;
            due("35 TRACE behind " + (t + 1), x.trace(), (int) exact);
        }
        due("35 it would be above the greatest int", exact > MOST ? 1 : 0, 1);
        due("35 asking leaves it", x.trace(), (int) exact);
    }

    private static void asEdges() {
        for (int k : new int[] {-1, 3, LEAST, MOST}) {
            refused("34 no PLACE " + k, x -> x.as(k, 0), UNKNOWN, 0);
        }
        for (int kind : new int[] {-1, 3, LEAST, MOST}) {
            refused("34 OUTSIDE " + kind, x -> x.as(0, kind), OUTSIDE, 0);
            refused("34 OUTSIDE of a TURNED one " + kind, x -> x.as(2, kind), OUTSIDE, 0);
            refused("34 UNKNOWN ahead of OUTSIDE " + kind, x -> x.as(3, kind), UNKNOWN, 0);
        }
        Edges.leavesAll("34 no PLACES", Edges::bare, x -> x.as(0, 0), UNKNOWN, 0);
        for (int k = 0; k < 3; k++) {
            for (int kind = 0; kind < 3; kind++) {
                int of = k;
                int as = kind;
                refused("34 kind " + k + " as " + kind, x -> x.as(of, as), as <= of ? 1 : CAST, as <= of ? 0 : 2);
            }
        }
    }

    /** Calls that name no FAULTS, answered and refused. */
    private static final Edges.Call[] NAME_NONE = {
        x -> x.ofPlace(0, 0), x -> x.ofPlace(9, 0), x -> x.wear(0, 0), x -> x.wear(9, 0), x -> x.kill(0, 0), x -> x.kill(9, 0),
        x -> x.jam(0, 0), x -> x.jam(9, 0), x -> x.burns(0, 0), x -> x.burns(0, 10), x -> x.digits(0, 0), x -> x.digits(0, -1),
        x -> x.bars(0), x -> x.bars(-1), x -> x.alike(0), x -> x.alike(-1), x -> x.which(0, 0), x -> x.which(0, -1),
        x -> x.flips(0, 1), x -> x.flips(0, -1), x -> x.counting(0, 9, 0), x -> x.counting(0, 9, 9), x -> x.near(0, 0),
        x -> x.near(0, 9), x -> x.pictures(), x -> x.go(1), x -> x.go(0), x -> x.dies(0, 0), x -> x.dies(0, 9),
        x -> x.first(0), x -> x.first(9), x -> x.repair(0), x -> x.repair(9), x -> x.reading(0, 0, 0),
        x -> x.reading(0, 10, 0), x -> x.back(0), x -> x.back(-1), x -> x.deads(0, 0), x -> x.deads(0, 9), x -> x.kinds(0),
        x -> x.kinds(9), x -> x.odds(0), x -> x.odds(9), x -> x.lose(0), x -> x.lose(9), x -> x.tell(0), x -> x.tell(9),
        x -> x.hum(0), x -> x.hum(9), x -> x.trace(), x -> x.fault(), x -> x.many(0), x -> x.many(9)};

    /** Calls that name FAULTS and come to none. */
    private static final Edges.Call[] COME_TO_NONE = {
        x -> x.panel(0, 0, 0, 11), x -> x.panel(0, 0, 0, 5), x -> x.seen(1, 1, 0, 1, 0, 0), x -> x.order(1, 1, 0, 2, 0),
        x -> x.sheet(0, 0, 0), x -> x.put(0, 0, 0), x -> x.cell(0, 0, 0), x -> x.copy(0, 0, 0, 0, 1), x -> x.as(0, 0),
        x -> x.panel(9, 0, 0, 11), x -> x.seen(9, 1, 0, 1, 0, 0), x -> x.order(9, 1, 0, 2, 0), x -> x.sheet(9, 0, 0),
        x -> x.put(9, 0, 0), x -> x.cell(9, 0, 0), x -> x.copy(0, 0, 9, 0, 1), x -> x.as(9, 0)};

    private static final Edges.Call[] COME_TO_ONE = {x -> x.put(3, 0, 0), x -> x.as(0, 1), x -> x.put(0, -1, 0), x -> x.sheet(0, 0, -1)};

    private static void faultEdges() {
        for (int ahead = 1; ahead <= 4; ahead++) {
            for (int c = 0; c < NAME_NONE.length; c++) {
                BarFigures x = Edges.worn();
                due("36 -10 less FAULT " + ahead, COME_TO_ONE[ahead - 1].on(x), -10 - ahead);
                NAME_NONE[c].on(x);
                due("36 a call that names none leaves " + ahead + ", call " + c, x.fault(), ahead);
            }
            for (int c = 0; c < COME_TO_NONE.length; c++) {
                BarFigures x = Edges.worn();
                COME_TO_ONE[ahead - 1].on(x);
                COME_TO_NONE[c].on(x);
                due("36 it came to none, or was refused, behind " + ahead + ", call " + c, x.fault(), 0);
            }
            for (int next = 1; next <= 4; next++) {
                BarFigures x = Edges.worn();
                COME_TO_ONE[ahead - 1].on(x);
                COME_TO_ONE[next - 1].on(x);
                due("36 the latest: " + next + " behind " + ahead, x.fault(), next);
                due("36 asking leaves it", x.fault(), next);
            }
        }
        for (int c = 0; c < NAME_NONE.length; c++) {
            BarFigures x = new BarFigures();
            NAME_NONE[c].on(x);
            due("36 0 ahead of any, call " + c, x.fault(), 0);
        }
    }

    private static void manyEdges() {
        for (int what : new int[] {-1, 5, LEAST, MOST}) {
            refused("37 OUTSIDE " + what, x -> x.many(what), OUTSIDE, KEPT);
            Edges.leavesAll("37 OUTSIDE without a PANEL " + what, Edges::bare, x -> x.many(what), OUTSIDE, KEPT);
        }
        for (int what = 0; what < 5; what++) {
            int of = what;
            refused("37 asking changes nothing " + what, x -> x.many(of) * 0, 0, KEPT);
            Edges.leavesAll("37 0 all without a PANEL", Edges::bare, x -> x.many(of), 0, KEPT);
        }
        BarFigures x = Edges.with("p99;f127000;m127000;t127000;f127000");
        due("37 the most PLACES", x.many(0), 4);
        due("37 the greatest LIFE", x.many(1), 99);
        due("37 the most DEAD bars", x.many(3), 28);
        for (int k = 0; k < 4; k++) {
            x.jam(k, 127);
        }
        due("37 STUCK or not", x.many(3), 28);
        x = Edges.with("p01;f000127");
        due("37 one PLACE", x.many(0), 1);
        due("37 the least LIFE", x.many(1), 1);
        due("37 STUCK is not DEAD", x.many(3), 0);
        due("37 the most READINGS", Edges.full().many(4), 8);
    }

    /** An object is used for 512 calls: the last of them is answered as the first is. */
    private static void theLastCall() {
        BarFigures x = new BarFigures();
        int calls = 0;
        String text = "p99;f000000";
        x.sheet(0, 0, text.length());
        for (int i = 0; i < text.length(); i++) {
            x.put(0, i, text.charAt(i));
        }
        x.panel(0, 0, 0, text.length());
        calls += 2 + text.length();
        for (; calls < 511; calls++) {
            x.go(1);
        }
        due("the 512th call", x.many(2), (511 - 13) % 10);
    }

    public static void main(String[] args) {
        sheetRefusals();
        sheetEdges();
        loseEdges();
        putRefusals();
        putEdges();
        cellRefusals();
        copyRefusals();
        copyEdges();
        bodyEdges();
        traceWraps();
        asEdges();
        faultEdges();
        manyEdges();
        theLastCall();
        Edges.end();
    }
}
