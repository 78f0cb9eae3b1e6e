/** Boundary cases of promises 16 to 21: steps, deaths, what was seen, repairs, orders. */
public final class EdgesOfStepsTest {
    private static final int UNKNOWN = Edges.UNKNOWN, OUTSIDE = Edges.OUTSIDE, STATE = Edges.STATE, NONE = Edges.NONE;
    private static final int NULL = Edges.NULL, CAST = Edges.CAST, INDEX = Edges.INDEX;
    private static final int LEAST = Edges.LEAST, MOST = Edges.MOST, KEPT = Edges.KEPT;
    private static final String DEAD_BEHIND = ";f127000;f127000;f127000";

    private static void due(String sentence, long got, long want) {
        Edges.due(sentence, got, want);
    }

    private static void refused(String sentence, Edges.Call call, long answer, int fault) {
        Edges.leavesAll(sentence, Edges::worn, call, answer, fault);
    }

    private static void noPanel(String sentence, Edges.Call call, long answer, int fault) {
        Edges.leavesAll(sentence, Edges::bare, call, answer, fault);
    }

    private static void goEdges() {
        for (int n : new int[] {0, 501, -1, LEAST, MOST}) {
            refused("16 OUTSIDE " + n, x -> x.go(n), OUTSIDE, KEPT);
            noPanel("16 STATE ahead of OUTSIDE " + n, x -> x.go(n), STATE, KEPT);
        }
        noPanel("16 STATE", x -> x.go(1), STATE, KEPT);
        BarFigures x = Edges.with(Edges.fair(4));
        due("16 the fewest STEPS", x.go(1), 0);
        due("16 one STEP", x.many(2), 1);
        // at the last PLACE bars 0, 3, 4, 5, 6 have flipped 99 times by then, bars 1 and 2 with the 495th and 492nd STEP
        due("16 the most STEPS", x.go(500), 7);
        due("16 501 STEPS", x.many(2), 501);
        due("16 all DEAD at the last PLACE", x.ofPlace(3, 1), 127);
        due("16 none at the others", x.many(3), 7);
    }

    private static void zeroBehindLast() {
        int last = 0;
        for (int places = 1; places <= 4; places++) {
            last = 10 * last + 9;
            BarFigures x = Edges.with("p99" + ";f127000".repeat(places));
            for (int left = last; left > 0; left -= 500) {
                x.go(Math.min(500, left));
            }
            due("3 LAST is shown", x.many(2), last);
            for (int k = 0; k < places; k++) {
                x.kill(k, 0);
            }
            x.go(1);
            due("3 0 behind LAST", x.many(2), 0);
            for (int k = 0; k < places; k++) {
                for (int bar = 0; bar < 7; bar++) {
                    // from 9 to 0: bar 4 lights up, bar 6 goes out
                    due("3 the step from LAST to 0 wears bar " + bar, x.wear(k, bar), bar == 4 || bar == 6 ? 1 : 0);
                }
            }
            x.go(1);
            due("3 1 behind it", x.many(2), 1);
        }
    }

    private static void deadAtLife() {
        BarFigures x = Edges.with("p01;f000000");
        due("3 WEAR is LIFE 1 with the first flip", x.go(1), 4);
        due("3 those are DEAD", x.ofPlace(0, 1), 1 | 8 | 16 | 32);
        due("3 those are DEAD then: 1 BURNS as it does", x.ofPlace(0, 4), 6);
        x = Edges.with("p02;f000000");
        due("3 WEAR is LIFE less 1", x.go(1), 0);
        due("3 WEAR is LIFE less 1", x.wear(0, 4), 1);
        due("3 WEAR is LIFE", x.go(1), 3);
        due("3 WEAR is LIFE", x.wear(0, 4), 2);
        x = Edges.with(Edges.fair(1));
        due("3 98 flips", x.go(122), 0);
        due("3 98 flips", x.wear(0, 4), 98);
        due("3 99 flips", x.go(1), 1);
        due("3 99 flips", x.wear(0, 4), 99);
        due("16 how many bars that were not DEAD are then", x.go(368), 4);
        due("16 none", x.go(0), OUTSIDE);
        due("16 bar 2", x.go(1), 1);
        due("16 none dies", x.go(2), 0);
        due("16 bar 1", x.go(1), 1);
        due("16 all were DEAD", x.go(500), 0);
        due("16 all were DEAD", x.many(3), 7);
        x = Edges.with("p01;f062000");
        due("16 bars that were DEAD are not counted", x.go(1), 1);
        x = Edges.with("p01;f000127");
        due("3 STUCK bars have no FLIPS", x.go(500), 0);
        x = Edges.with("p01;f000000;f000000");
        due("16 bars of all PLACES", x.go(9) + 100 * x.go(1), 7 + 100 * 4);
    }

    private static void madeWholeItLivesAnew() {
        BarFigures x = Edges.with("p01;f000000");
        x.go(1);
        x.kill(0, 0);
        due("3 made whole: no WEAR", x.wear(0, 0), 0);
        due("3 it dies again", x.go(1), 5);
        due("3 bars 0 2 3 4 6", x.ofPlace(0, 1), 1 | 4 | 8 | 16 | 64);
    }

    private static void diesEdges() {
        for (int k : new int[] {-1, 3, LEAST, MOST}) {
            refused("17 no PLACE " + k, x -> x.dies(k, 0), UNKNOWN, KEPT);
        }
        for (int bar : new int[] {-1, 7, LEAST, MOST}) {
            refused("17 no bar " + bar, x -> x.dies(0, bar), UNKNOWN, KEPT);
            refused("17 neither PLACE nor bar " + bar, x -> x.dies(3, bar), UNKNOWN, KEPT);
            noPanel("17 no PLACES, no bar " + bar, x -> x.dies(0, bar), UNKNOWN, KEPT);
        }
        refused("17 it is DEAD now", x -> x.dies(0, 1), NONE, KEPT);
        BarFigures x = Edges.with(Edges.fair(1));
        int[] behind = {244, 495, 492, 164, 123, 247, 248};
        for (int bar = 0; bar < 7; bar++) {
            due("17 99 flips of bar " + bar, x.dies(0, bar), behind[bar]);
        }
        due("17 asking is no STEP", x.many(2), 0);
        due("17 asking wears nothing", x.wear(0, 4), 0);
        x = Edges.with("p01;f000000" + DEAD_BEHIND);
        int[] thousand = {1000, NONE, NONE, 1000, 1000, 1000, NONE};
        for (int bar = 0; bar < 7; bar++) {
            due("17 behind 1000 STEPS or not by then, bar " + bar, x.dies(0, bar), thousand[bar]);
            due("17 DEAD now, bar " + bar, x.dies(3, bar), NONE);
        }
        x = Edges.with("p01;f127000" + DEAD_BEHIND);
        toLastOfFour(x);
        x.kill(0, 0);
        int[] more = {NONE, NONE, NONE, NONE, 1, NONE, 1};
        for (int bar = 0; bar < 7; bar++) {
            due("17 behind 1 STEP over LAST, or 1001, bar " + bar, x.dies(0, bar), more[bar]);
        }
        due("17 with that STEP", x.go(1), 2);
        due("17 behind 1000 STEPS now", x.dies(0, 0), 1000);
        x = Edges.with("p01;f000000");
        x.go(1);
        int[] next = {NONE, 4, 1, NONE, NONE, NONE, 1};
        for (int bar = 0; bar < 7; bar++) {
            due("17 DEAD now by its WEAR, or not yet, bar " + bar, x.dies(0, bar), next[bar]);
        }
        dueFirst("bars that are DEAD now by their WEAR are none", x, 0, 2, 1);
        x = Edges.with("p01;f000127");
        due("17 STUCK, it has no FLIPS", x.dies(0, 0), NONE);
        x.jam(0, 0);
        due("17 STUCK no more", x.dies(0, 0), 1);
    }

    /** 9999 of four PLACES. */
    private static void toLastOfFour(BarFigures x) {
        for (int t = 0; t < 19; t++) {
            x.go(500);
        }
        x.go(499);
        due("LAST is shown", x.many(2), 9999);
    }

    private static void dueFirst(String sentence, BarFigures x, int place, int bar, int steps) {
        due("18 " + sentence + ": PLACE", x.first(0), place);
        due("18 " + sentence + ": bar", x.first(1), bar);
        due("18 " + sentence + ": STEPS", x.first(2), steps);
    }

    private static void firstEdges() {
        for (int what : new int[] {-1, 3, LEAST, MOST}) {
            refused("18 OUTSIDE " + what, x -> x.first(what), OUTSIDE, KEPT);
            noPanel("18 OUTSIDE ahead of STATE " + what, x -> x.first(what), OUTSIDE, KEPT);
        }
        for (int asked = 0; asked < 3; asked++) {
            int what = asked;
            noPanel("18 STATE " + what, x -> x.first(what), STATE, KEPT);
            Edges.leavesAll("18 asking changes nothing", () -> Edges.with("p01;f000000"),
                x -> x.first(what), new int[] {0, 0, 1}[what], KEPT);
        }
        dueFirst("the fewest STEPS, not the least PLACE or bar", Edges.with("p99;f000000;f000000"), 1, 4, 123);
        BarFigures x = Edges.with("p01;f127000;f127000");
        x.go(9);
        dueFirst("all are DEAD", x, NONE, NONE, NONE);
        x.kill(0, 0);
        x.kill(1, 0);
        dueFirst("of several the least PLACE, of these the least bar", x, 0, 0, 1);
        x.kill(0, 1 | 8 | 16);
        dueFirst("the least PLACE ahead of the least bar", x, 0, 5, 1);
        x.kill(0, 1 | 8 | 16 | 32);
        dueFirst("at the other PLACE the least bar", x, 1, 4, 1);
        x.kill(1, 16);
        dueFirst("at the other PLACE the next bar", x, 1, 6, 1);
        x = Edges.with("p01;f000000" + DEAD_BEHIND);
        dueFirst("behind 1000 STEPS", x, 0, 0, 1000);
        x = Edges.with("p01;f127000" + DEAD_BEHIND);
        toLastOfFour(x);
        x.kill(0, 16 | 64);
        dueFirst("behind 1001 STEPS", x, NONE, NONE, NONE);
        x.go(1);
        dueFirst("behind 1000 STEPS now", x, 0, 0, 1000);
        dueFirst("STUCK bars do not die", Edges.with("p01;f000127;t000127"), NONE, NONE, NONE);
    }

    private static void seenRefusals() {
        for (int bad : new int[] {-1, LEAST, MOST}) {
            refused("19 no SHEET " + bad, x -> x.seen(bad, 1, 0, 1, 0, 0), UNKNOWN, 0);
            refused("19 no LANE " + bad, x -> x.seen(1, bad, 0, 1, 0, 0), OUTSIDE, 0);
            refused("19 n " + bad, x -> x.seen(1, 1, 0, bad, 0, 0), OUTSIDE, 0);
            refused("19 s " + bad, x -> x.seen(1, 1, 0, 1, bad, 0), OUTSIDE, 0);
            refused("19 what " + bad, x -> x.seen(1, 1, 0, 1, 0, bad), OUTSIDE, 0);
        }
        refused("19 no SHEET 4", x -> x.seen(4, 1, 0, 1, 0, 0), UNKNOWN, 0);
        refused("19 no LANE 3", x -> x.seen(1, 3, 0, 1, 0, 0), OUTSIDE, 0);
        refused("19 n 11", x -> x.seen(1, 1, 0, 11, 0, 0), OUTSIDE, 0);
        refused("19 s 100", x -> x.seen(1, 1, 0, 1, 100, 0), OUTSIDE, 0);
        refused("19 what 3", x -> x.seen(1, 1, 0, 1, 0, 3), OUTSIDE, 0);
        noPanel("19 STATE", x -> x.seen(1, 1, 0, 0, 0, 0), STATE, 0);
        for (int asked = 0; asked < 3; asked++) {
            int what = asked;
            refused("19 CAST, what " + what, x -> x.seen(1, what == 1 ? 0 : what, 0, 1, 0, what), CAST, 2);
            refused("19 NULL, what " + what, x -> x.seen(3, what, 0, 0, 0, what), NULL, 1);
            refused("19 no rows at the end of the row", x -> x.seen(1, 1, 6, 0, 0, what), new int[] {1000, 0, 999}[what], 0);
        }
        int[][] beyond = {{7, 0}, {-1, 0}, {LEAST, 0}, {MOST, 0}, {4, 1}, {6, 1}, {1, 2}, {0, 3}, {-1, 1}, {MOST, 10}, {LEAST, 10}};
        for (int[] cells : beyond) {
            refused("19 INDEX " + cells[0] + " " + cells[1], x -> x.seen(1, 1, cells[0], cells[1], 0, 0), INDEX, 3);
        }
        refused("19 the last cell is no set", x -> x.seen(1, 1, 3, 1, 0, 0), OUTSIDE, 0);
        refused("19 the last cell of the second row is no set", x -> x.seen(1, 1, 0, 2, 0, 0), OUTSIDE, 0);
        refused("19 a cell is below 0", x -> x.seen(2, 2, 0, 1, 0, 0), OUTSIDE, 0);
    }

    private static void seenOrderOfRefusals() {
        refused("19 UNKNOWN ahead of OUTSIDE lane", x -> x.seen(4, 3, 0, 1, 0, 0), UNKNOWN, 0);
        refused("19 UNKNOWN ahead of OUTSIDE n", x -> x.seen(4, 1, 0, 11, 0, 0), UNKNOWN, 0);
        refused("19 UNKNOWN ahead of OUTSIDE s", x -> x.seen(4, 1, 0, 1, 100, 0), UNKNOWN, 0);
        refused("19 UNKNOWN ahead of OUTSIDE what", x -> x.seen(4, 1, 0, 1, 0, 3), UNKNOWN, 0);
        refused("19 UNKNOWN ahead of INDEX", x -> x.seen(4, 1, -1, 1, 0, 0), UNKNOWN, 0);
        noPanel("19 UNKNOWN ahead of STATE", x -> x.seen(-1, 1, 0, 1, 0, 0), UNKNOWN, 0);
        noPanel("19 OUTSIDE lane ahead of STATE", x -> x.seen(1, 3, 0, 1, 0, 0), OUTSIDE, 0);
        noPanel("19 OUTSIDE n ahead of STATE", x -> x.seen(1, 1, 0, 11, 0, 0), OUTSIDE, 0);
        noPanel("19 OUTSIDE s ahead of STATE", x -> x.seen(1, 1, 0, 1, 100, 0), OUTSIDE, 0);
        noPanel("19 OUTSIDE what ahead of STATE", x -> x.seen(1, 1, 0, 1, 0, 3), OUTSIDE, 0);
        refused("19 OUTSIDE n ahead of CAST", x -> x.seen(1, 0, 0, 11, 0, 0), OUTSIDE, 0);
        refused("19 OUTSIDE lane ahead of NULL", x -> x.seen(3, 3, 0, 1, 0, 0), OUTSIDE, 0);
        refused("19 OUTSIDE n ahead of INDEX", x -> x.seen(1, 1, -1, -1, 0, 0), OUTSIDE, 0);
        refused("19 OUTSIDE s ahead of INDEX", x -> x.seen(1, 1, -1, 1, -1, 0), OUTSIDE, 0);
        refused("19 OUTSIDE what ahead of INDEX", x -> x.seen(1, 1, -1, 1, 0, -1), OUTSIDE, 0);
        noPanel("19 STATE ahead of CAST", x -> x.seen(1, 0, 0, 1, 0, 0), STATE, 0);
        noPanel("19 STATE ahead of NULL", x -> x.seen(3, 0, 0, 1, 0, 0), STATE, 0);
        noPanel("19 STATE ahead of INDEX", x -> x.seen(1, 1, -1, 1, 0, 0), STATE, 0);
        noPanel("19 STATE ahead of OUTSIDE cells", x -> x.seen(2, 2, 0, 1, 0, 0), STATE, 0);
        refused("19 CAST ahead of INDEX", x -> x.seen(1, 2, 7, 0, 0, 0), CAST, 2);
        refused("19 CAST ahead of OUTSIDE cells", x -> x.seen(2, 1, 0, 1, 0, 0), CAST, 2);
        refused("19 NULL ahead of INDEX", x -> x.seen(3, 1, -1, 1, 0, 0), NULL, 1);
        refused("19 INDEX ahead of OUTSIDE cells", x -> x.seen(2, 2, 0, 2, 0, 0), INDEX, 3);
        refused("19 INDEX ahead of OUTSIDE cells", x -> x.seen(1, 1, 5, 1, 0, 0), INDEX, 3);
    }

    private static void dueSeen(String sentence, BarFigures x, int[] how, int many, int least, int greatest) {
        int[] want = {many, least, greatest};
        for (int what = 0; what < 3; what++) {
            due("19 " + sentence + ", what " + what, x.seen(0, how[0], how[1], how[2], how[3], what), want[what]);
        }
    }

    private static void seenEdges() {
        BarFigures x = Edges.with("p09;f000127;f000127;f000127;f000127");
        int[] cells = new int[40];
        java.util.Arrays.fill(cells, 127);
        Edges.row(x, 0, 0, cells);
        dueSeen("the most rows by the most", x, new int[] {0, 0, 10, 99}, 9999 - 891 + 1, 0, 9999 - 891);
        dueSeen("the most rows by none", x, new int[] {0, 0, 10, 0}, 10000, 0, 9999);
        dueSeen("the most rows by one", x, new int[] {0, 0, 10, 1}, 9991, 0, 9990);
        dueSeen("one row by the most", x, new int[] {0, 0, 1, 99}, 10000, 0, 9999);
        dueSeen("two rows by the most", x, new int[] {0, 0, 2, 99}, 9901, 0, 9900);
        dueSeen("no rows", x, new int[] {0, 40, 0, 99}, 10000, 0, 9999);
        dueSeen("one cell less", x, new int[] {0, 1, 10, 0}, INDEX, INDEX, INDEX);
        x.put(0, 39, 126);
        dueSeen("the last cell is another set", x, new int[] {0, 0, 10, 0}, 0, NONE, NONE);
        dueSeen("cells behind are not looked at", x, new int[] {0, 0, 9, 0}, 10000, 0, 9999);
        x = Edges.with("p09;f000000");
        Edges.row(x, 0, 2, 111, 63, 6, 0, 127, 128, -1, LEAST, MOST, 63 + 128);
        dueSeen("0 does not come behind LAST", x, new int[] {2, 0, 2, 1}, 0, NONE, NONE);
        dueSeen("from 0 to 1", x, new int[] {2, 1, 2, 1}, 1, 0, 0);
        dueSeen("LAST alone", x, new int[] {2, 0, 1, 1}, 1, 9, 9);
        dueSeen("the least set", x, new int[] {2, 3, 1, 1}, 0, NONE, NONE);
        dueSeen("the greatest set", x, new int[] {2, 4, 1, 1}, 1, 8, 8);
        for (int at = 5; at < 10; at++) {
            dueSeen("no set at " + at, x, new int[] {2, at, 1, 1}, OUTSIDE, OUTSIDE, OUTSIDE);
        }
        x = Edges.with("p09;f127000");
        Edges.row(x, 0, 1, 0, 0, 0);
        dueSeen("the least set: all NUMBERS", x, new int[] {1, 0, 1, 5}, 10, 0, 9);
        dueSeen("up to LAST", x, new int[] {1, 0, 3, 4}, 2, 0, 1);
        dueSeen("just up to LAST", x, new int[] {1, 0, 2, 9}, 1, 0, 0);
        dueSeen("above LAST", x, new int[] {1, 0, 2, 10}, 0, NONE, NONE);
        dueSeen("above LAST with the third", x, new int[] {1, 0, 3, 5}, 0, NONE, NONE);
    }

    /** By the bars as they are now, and not by the number that is shown. */
    private static void seenByBarsAsTheyAre() {
        BarFigures x = Edges.with("p01;f000000;f127000");
        Edges.row(x, 0, 0, 63, 0);
        dueSeen("by bars as they are", x, new int[] {0, 0, 1, 0}, 10, 0, 9);
        x.go(10);
        dueSeen("bars 0 3 4 5 are DEAD", x, new int[] {0, 0, 1, 0}, 0, NONE, NONE);
        x.put(0, 0, 6);
        // without them 0 1 7 are all of bars 1 and 2
        dueSeen("bars 0 3 4 5 are DEAD", x, new int[] {0, 0, 1, 0}, 30, 0, 79);
    }

    /** What must be whole, as two FIGURES are unlike by it alone; that is enough. By kinds. */
    private static final int[] NEEDED = {1 | 2 | 16 | 32 | 64, 1 | 32 | 4 | 2 | 64, 8 | 16 | 2 | 4 | 64};

    private static void repairEdges() {
        for (int k : new int[] {-1, 3, LEAST, MOST}) {
            refused("20 no PLACE " + k, x -> x.repair(k), UNKNOWN, KEPT);
        }
        noPanel("20 no PLACES", x -> x.repair(0), UNKNOWN, KEPT);
        Edges.leavesAll("20 nothing is mended", () -> Edges.with("p05;f127000"), x -> x.repair(0), NEEDED[0], KEPT);
        for (int kind = 0; kind < 3; kind++) {
            for (int stuck = 0; stuck < 128; stuck++) {
                BarFigures x = Edges.with("p05;" + "fmt".charAt(kind) + "000000");
                x.jam(0, stuck);
                for (int dead = 0; dead < 128; dead++) {
                    x.kill(0, dead);
                    due("20 kind " + kind + " DEAD " + dead + " STUCK " + stuck, x.repair(0),
                        (stuck & NEEDED[kind]) != 0 ? NONE : dead & NEEDED[kind]);
                }
            }
        }
    }

    private static void orderRefusals() {
        for (int bad : new int[] {-1, LEAST, MOST}) {
            refused("21 no SHEET " + bad, x -> x.order(bad, 1, 0, 1, 0), UNKNOWN, 0);
            refused("21 no LANE " + bad, x -> x.order(1, bad, 0, 1, 0), OUTSIDE, 0);
            refused("21 n " + bad, x -> x.order(1, 1, 0, bad, 0), OUTSIDE, 0);
            refused("21 what " + bad, x -> x.order(1, 1, 0, 1, bad), OUTSIDE, 0);
        }
        refused("21 no SHEET 4", x -> x.order(4, 1, 0, 1, 0), UNKNOWN, 0);
        refused("21 no LANE 3", x -> x.order(1, 3, 0, 1, 0), OUTSIDE, 0);
        refused("21 n 7", x -> x.order(1, 1, 0, 7, 0), OUTSIDE, 0);
        for (int what : new int[] {1, 2, 9, 16, 20}) {
            refused("21 what " + what, x -> x.order(1, 1, 0, 1, what), OUTSIDE, 0);
        }
        noPanel("21 STATE", x -> x.order(1, 1, 0, 0, 0), STATE, 0);
        for (int asked = 9; asked < 16; asked++) {
            int what = asked == 9 ? 0 : asked;
            refused("21 CAST, what " + what, x -> x.order(1, 2, 0, 0, what), CAST, 2);
            refused("21 NULL, what " + what, x -> x.order(3, 1, 0, 0, what), NULL, 1);
            refused("21 INDEX, what " + what, x -> x.order(1, 1, 7, 0, what), INDEX, 3);
            refused("21 none, what " + what, x -> x.order(1, 1, 6, 0, what), what == 0 ? 0 : NONE, 0);
            refused("21 one, what " + what, x -> x.order(1, 1, 5, 1, what), what < 11 ? 0 : NONE, 0);
            refused("21 no NUMBER, what " + what, x -> x.order(2, 2, 0, 1, what), OUTSIDE, 0);
        }
        int[][] beyond = {{7, 0}, {-1, 0}, {LEAST, 0}, {MOST, 0}, {6, 1}, {5, 2}, {1, 6}, {-1, 1}, {-1, 6}, {MOST, 6}, {LEAST, 6}};
        for (int[] cells : beyond) {
            refused("21 INDEX " + cells[0] + " " + cells[1], x -> x.order(1, 1, cells[0], cells[1], 0), INDEX, 3);
        }
        refused("21 the first cell is no NUMBER", x -> x.order(2, 2, 0, 2, 0), OUTSIDE, 0);
        refused("21 the last cell is no NUMBER", x -> x.order(2, 2, 1, 2, 0), OUTSIDE, 0);
        refused("21 cells ahead and behind are not looked at", x -> x.order(2, 2, 1, 1, 0), 0, 0);
    }

    private static void orderOrderOfRefusals() {
        refused("21 UNKNOWN ahead of OUTSIDE lane", x -> x.order(4, 3, 0, 1, 0), UNKNOWN, 0);
        refused("21 UNKNOWN ahead of OUTSIDE n", x -> x.order(4, 1, 0, 7, 0), UNKNOWN, 0);
        refused("21 UNKNOWN ahead of OUTSIDE what", x -> x.order(4, 1, 0, 1, 1), UNKNOWN, 0);
        refused("21 UNKNOWN ahead of INDEX", x -> x.order(4, 1, -1, 1, 0), UNKNOWN, 0);
        noPanel("21 UNKNOWN ahead of STATE", x -> x.order(-1, 1, 0, 1, 0), UNKNOWN, 0);
        noPanel("21 OUTSIDE lane ahead of STATE", x -> x.order(1, 3, 0, 1, 0), OUTSIDE, 0);
        noPanel("21 OUTSIDE n ahead of STATE", x -> x.order(1, 1, 0, 7, 0), OUTSIDE, 0);
        noPanel("21 OUTSIDE what ahead of STATE", x -> x.order(1, 1, 0, 1, 9), OUTSIDE, 0);
        refused("21 OUTSIDE n ahead of CAST", x -> x.order(1, 0, 0, 7, 0), OUTSIDE, 0);
        refused("21 OUTSIDE lane ahead of NULL", x -> x.order(3, 3, 0, 1, 0), OUTSIDE, 0);
        refused("21 OUTSIDE n ahead of INDEX", x -> x.order(1, 1, -1, -1, 0), OUTSIDE, 0);
        refused("21 OUTSIDE what ahead of INDEX", x -> x.order(1, 1, -1, 1, 16), OUTSIDE, 0);
        noPanel("21 STATE ahead of CAST", x -> x.order(1, 0, 0, 1, 0), STATE, 0);
        noPanel("21 STATE ahead of NULL", x -> x.order(3, 0, 0, 1, 0), STATE, 0);
        noPanel("21 STATE ahead of INDEX", x -> x.order(1, 1, -1, 1, 0), STATE, 0);
        noPanel("21 STATE ahead of no NUMBER", x -> x.order(2, 2, 2, 1, 0), STATE, 0);
        refused("21 CAST ahead of INDEX", x -> x.order(1, 2, 7, 0, 0), CAST, 2);
        refused("21 CAST ahead of no NUMBER", x -> x.order(2, 1, 0, 1, 0), CAST, 2);
        refused("21 NULL ahead of INDEX", x -> x.order(3, 1, -1, 1, 0), NULL, 1);
        refused("21 INDEX ahead of no NUMBER", x -> x.order(2, 2, 2, 2, 0), INDEX, 3);
    }

    private static void dueOrder(String sentence, BarFigures x, int i, int n, int flips, int... places) {
        due("21 " + sentence + ": FLIPS", x.order(0, 2, i, n, 0), flips);
        for (int k = 0; k < 6; k++) {
            due("21 " + sentence + ": place " + k, x.order(0, 2, i, n, 10 + k), k < n ? places[k] : NONE);
        }
    }

    private static void orderEdges() {
        BarFigures x = Edges.with(Edges.fair(1));
        Edges.row(x, 0, 2, 8, 8, 0, 0, 8, 0, 7, 1, 9, 10, -1);
        dueOrder("the most: of all that have one flip the first as a row", x, 0, 6, 1, 0, 1, 4, 2, 3, 5);
        dueOrder("none", x, 11, 0, 0);
        dueOrder("one", x, 6, 1, 0, 0);
        dueOrder("two: both ways are as good", x, 6, 2, 1, 0, 1);
        // 0 7 three flips, 7 1 one, 0 1 four: 7 is between
        dueOrder("places are told from i on", x, 5, 3, 4, 0, 1, 2);
        due("21 LAST is a NUMBER", x.order(0, 2, 8, 1, 0), 0);
        due("21 behind LAST is none", x.order(0, 2, 9, 1, 0), OUTSIDE);
        due("21 below 0 is none", x.order(0, 2, 10, 1, 0), OUTSIDE);
        BarFigures four = Edges.with(Edges.fair(4));
        Edges.row(four, 0, 2, 9999, 0, 10000, MOST, LEAST);
        due("21 LAST of four PLACES and 0", four.order(0, 2, 0, 2, 0), 8);
        for (int at = 2; at < 5; at++) {
            due("21 no NUMBER at " + at, four.order(0, 2, at, 1, 0), OUTSIDE);
        }
        Edges.row(four, 0, 2, 0, 2222, 3333, 4444, 5555, 7777);
        // at each PLACE: 0 2 three flips, 2 3 two, 3 5 two, 5 4 three, 4 7 three
        dueOrder("the most, far from one another", four, 0, 6, 4 * 13, 0, 1, 2, 4, 3, 5);
        BarFigures alike = Edges.with("p09;f127000");
        Edges.row(alike, 0, 2, 5, 4, 3, 2, 1, 0);
        dueOrder("all alike: as they were told", alike, 0, 6, 0, 0, 1, 2, 3, 4, 5);
    }

    public static void main(String[] args) {
        goEdges();
        zeroBehindLast();
        deadAtLife();
        madeWholeItLivesAnew();
        diesEdges();
        firstEdges();
        seenRefusals();
        seenOrderOfRefusals();
        seenEdges();
        seenByBarsAsTheyAre();
        repairEdges();
        orderRefusals();
        orderOrderOfRefusals();
        orderEdges();
        Edges.end();
    }
}
