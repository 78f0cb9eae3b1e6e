/** Boundary cases of promises 1 to 8: a new object, the text of a panel, its places. */
public final class EdgesOfPanelTest {
    private static final int UNKNOWN = Edges.UNKNOWN, OUTSIDE = Edges.OUTSIDE, STATE = Edges.STATE;
    private static final int NULL = Edges.NULL, CAST = Edges.CAST, INDEX = Edges.INDEX, SIZE = Edges.SIZE;
    private static final int LEAST = Edges.LEAST, MOST = Edges.MOST, KEPT = Edges.KEPT;
    private static final String ANY_DIGIT = "0123456789";

    private static void due(String sentence, long got, long want) {
        Edges.due(sentence, got, want);
    }

    private static void refused(String sentence, Edges.Call call, long answer, int fault) {
        Edges.leavesAll(sentence, Edges::worn, call, answer, fault);
    }

    private static void newObject() {
        Edges.Call[] ofPlaces = {x -> x.ofPlace(0, 0), x -> x.wear(0, 0), x -> x.kill(0, 0), x -> x.jam(0, 0),
            x -> x.burns(0, 0), x -> x.digits(0, 0), x -> x.dies(0, 0), x -> x.repair(0), x -> x.reading(0, 0, 0),
            x -> x.deads(0, 0), x -> x.kinds(0), x -> x.tell(0), x -> x.hum(0), x -> x.as(0, 0)};
        for (int c = 0; c < ofPlaces.length; c++) {
            due("1 no PLACES, call " + c, ofPlaces[c].on(new BarFigures()), UNKNOWN);
        }
        Edges.Call[] ofPanels = {x -> x.bars(0), x -> x.alike(0), x -> x.which(0, 0), x -> x.flips(0, 0),
            x -> x.counting(0, 0, 0), x -> x.near(0, 0), x -> x.pictures(), x -> x.go(1), x -> x.first(0),
            x -> x.seen(0, 0, 0, 0, 0, 0), x -> x.order(0, 0, 0, 0, 0)};
        for (int c = 0; c < ofPanels.length; c++) {
            due("1 no PANEL, call " + c, ofPanels[c].on(new BarFigures()), STATE);
        }
        due("1 no PANEL: odds", new BarFigures().odds(0), Edges.LOST);
        for (int k = 0; k < 4; k++) {
            int of = k;
            Edges.Call[] ofSheets = {x -> x.panel(of, 0, 0, 0), x -> x.put(of, 0, 0), x -> x.copy(of, 0, of, 0, 0)};
            for (Edges.Call call : ofSheets) {
                due("1 SHEETS have nothing", call.on(new BarFigures()), NULL);
            }
            due("1 SHEETS have nothing", new BarFigures().lose(k), 0);
        }
        for (int what = 0; what < 5; what++) {
            due("37 0 all without a PANEL", new BarFigures().many(what), 0);
        }
        due("35 TRACE is 0 at first", new BarFigures().trace(), 0);
        due("36 fault: 0 ahead of any", new BarFigures().fault(), 0);
        due("23 no READINGS", new BarFigures().back(0), 0);
        due("23 no READINGS", new BarFigures().back(1), OUTSIDE);
    }

    /** What is begun, then the codes by which it can go on. */
    private static final String[][] BEGUN = {
        {"", "p"},
        {"p", ANY_DIGIT}, {"p0", "123456789"}, {"p1", ANY_DIGIT}, {"p9", ANY_DIGIT},
        {"p01", ";"}, {"p99", ";"},
        {"p01;", "fmt"}, {"p01;f", "01"}, {"p01;m", "01"}, {"p01;t", "01"},
        {"p01;f0", ANY_DIGIT}, {"p01;f1", "012"},
        {"p01;f00", ANY_DIGIT}, {"p01;f02", ANY_DIGIT}, {"p01;f09", ANY_DIGIT}, {"p01;f10", ANY_DIGIT},
        {"p01;f11", ANY_DIGIT}, {"p01;f12", "01234567"},
        {"p01;f000", "01"}, {"p01;f127", "01"},
        {"p01;f1270", ANY_DIGIT}, {"p01;f1271", "012"},
        {"p01;f00000", ANY_DIGIT}, {"p01;f12709", ANY_DIGIT}, {"p01;f00010", ANY_DIGIT},
        {"p01;f00011", ANY_DIGIT}, {"p01;f00012", "01234567"}, {"p01;f12712", "01234567"},
        {"p01;f000000", ";"}, {"p01;t127127", ";"},
        {"p01;f000000;", "fmt"}, {"p01;f000000;m", "01"}, {"p01;f000000;m12", "01234567"},
        {"p01;f000000;m127", "01"}, {"p01;f000000;m12712", "01234567"}, {"p01;f000000;m127127", ";"},
        {"p01;f000000;m127127;t127127", ";"}, {"p01;f000000;m127127;t127127;", "fmt"},
        {"p01;f000000;m127127;t127127;f1", "012"}, {"p01;f000000;m127127;t127127;f12712", "01234567"},
        {"p01;f000000;m127127;t127127;f127127", ""}};

    private static void everyCodeAtEveryPlace() {
        for (String[] begun : BEGUN) {
            for (int from = -150; from < 300; from += 150) {
                BarFigures x = new BarFigures();
                Edges.row(x, 1, 1, begun[0].chars().toArray());
                due("a row with one more", x.sheet(2, 1, begun[0].length() + 1), 1);
                x.copy(1, 0, 2, 0, begun[0].length());
                for (int code = from; code < from + 150; code++) {
                    x.put(2, begun[0].length(), code);
                    boolean goesOn = code >= 0 && begun[1].indexOf(code) >= 0;
                    due("2 " + begun[0] + " and code " + code,
                        x.panel(2, 1, 0, begun[0].length() + 1), answer(begun[0].length(), goesOn));
                }
            }
        }
    }

    private static int answer(int begun, boolean goesOn) {
        if (!goesOn) {
            return -100 - begun;
        }
        int codes = begun + 1;
        return codes >= 11 && (codes - 3) % 8 == 0 ? (codes - 3) / 8 : -100 - codes;
    }

    private static void codesAreCutByLanesAlone() {
        int[] ahead = {'p', '0', '1', ';', 'f', '0', '0', '0', '0', '0', '0'};
        int[] wraps = {256, -256, 65536, -65536, 1 << 30};
        for (int lane = 0; lane < 3; lane++) {
            for (int wrap : wraps) {
                for (int at : new int[] {0, 2, 3, 4, 10}) {
                    BarFigures x = new BarFigures();
                    Edges.row(x, 0, lane, ahead);
                    x.put(0, at, ahead[at] + wrap);
                    boolean cut = lane == 0 || lane == 1 && Math.abs(wrap) > 256;
                    due("2 a code and " + wrap + " at " + at + " of lane " + lane,
                        x.panel(0, lane, 0, 11), cut ? 1 : -100 - at);
                }
            }
        }
    }

    private static void textsThatEnd() {
        String whole = "p99;f127127;m000064;t008099;f100019";
        for (int codes = 0; codes <= whole.length(); codes++) {
            BarFigures x = new BarFigures();
            boolean taken = codes >= 11 && (codes - 3) % 8 == 0;
            due("2 the first " + codes + " codes", Edges.panelBy(x, whole.substring(0, codes)),
                taken ? (codes - 3) / 8 : -100 - codes);
        }
        due("2 the first of several faults", Edges.panelBy(new BarFigures(), "p00:x999"), -102);
        due("2 a fault ahead of the end", Edges.panelBy(new BarFigures(), "p01;f128"), -107);
        due("2 no PLACE", Edges.panelBy(new BarFigures(), "p05"), -103);
        String five = "p05" + ";f000000".repeat(5);
        due("2 the ; of a fifth PLACE", Edges.panelBy(new BarFigures(), five), -135);
        due("2 a row of 60, all of it", Edges.panelBy(new BarFigures(), five + ";f000000;f0000"), -135);
    }

    private static void textsInARow() {
        BarFigures x = new BarFigures();
        Edges.row(x, 0, 0, ";;p05;f001002;;".chars().toArray());
        due("2 codes of a row from i on", x.panel(0, 0, 2, 11), 1);
        due("2 n of them: what is behind is not looked at", x.ofPlace(0, 2), 2);
        due("2 the FIRST FAULT is told from i on", x.panel(0, 0, 1, 12), -100);
        due("2 a fault from i on", x.panel(0, 0, 2, 13), -112);
        due("2 an end from i on", x.panel(0, 0, 2, 12), -112);
        due("2 an end from i on", x.panel(0, 0, 2, 10), -110);
        x = new BarFigures();
        Edges.row(x, 0, 1, ("x".repeat(25) + "p99;f127127;m000064;t008099;f100019").chars().toArray());
        due("2 the longest TEXT at the end of the longest row", x.panel(0, 1, 25, 35), 4);
        due("2 LIFE", x.many(1), 99);
        due("2 DEAD of the last PLACE", x.ofPlace(3, 1), 100);
        due("2 STUCK of the last PLACE", x.ofPlace(3, 2), 19);
    }

    private static void leastAndGreatestOfATextStay() {
        BarFigures x = Edges.with("p01;f000000;m127000;t000127");
        due("1 LIFE 01", x.many(1), 1);
        int[][] places = {{0, 0, 0}, {1, 127, 0}, {2, 0, 127}};
        for (int k = 0; k < 3; k++) {
            for (int what = 0; what < 3; what++) {
                due("1 PLACE " + k + " what " + what, x.ofPlace(k, what), places[k][what]);
            }
        }
        due("1 PLACE 0 is that of the highest digit", x.go(1), 0);
        due("1 PLACE 0 is that of the highest digit", x.go(99), 4);
        due("1 PLACE 0 is that of the highest digit", x.ofPlace(0, 1), 63 & ~6);
    }

    private static void aTakenTextMakesAllAnew() {
        int trace = Edges.worn().trace();
        BarFigures x = Edges.worn();
        BarFigures anew = Edges.bare();
        due("2 taken", x.panel(0, 0, 0, 11), 1);
        due("2 taken", anew.panel(0, 0, 0, 11), 1);
        due("2 TRACE stays", x.trace(), trace);
        Edges.same("2 all else anew", lookButTrace(x), lookButTrace(anew));
        x = Edges.worn();
        anew = Edges.bare();
        x.panel(0, 0, 0, 11);
        due("2 more PLACES again", Edges.panelBy(x, "p20;f002000;m000064;t008000;f000000"), 4);
        Edges.panelBy(anew, "p20;f002000;m000064;t008000;f000000");
        Edges.same("2 no WEAR of PLACES that were there once", lookButTrace(x), lookButTrace(anew));
        x = Edges.full();
        Edges.panelBy(x, "p20;f002000;m000064;t008000");
        due("2 no READINGS", x.many(4), 0);
        due("2 no READINGS to take back", x.back(1), OUTSIDE);
        due("2 READINGS begin at 0", x.reading(0, 0, 0), 0);
    }

    private static java.util.List<String> lookButTrace(BarFigures x) {
        java.util.List<String> seen = Edges.look(x);
        seen.remove(0);
        return seen;
    }

    private static void aFaultyTextChangesNothing() {
        refused("2 a code by which no TEXT goes on", x -> x.panel(0, 0, 1, 10), -100, 0);
        refused("2 a TEXT that ends too soon", x -> x.panel(0, 0, 0, 10), -110, 0);
        refused("2 no codes", x -> x.panel(0, 0, 0, 0), -100, 0);
        refused("2 numbers that are no codes", x -> x.panel(1, 1, 0, 6), -100, 0);
        Edges.leavesAll("2 without a PANEL, too", Edges::bare, x -> x.panel(0, 0, 0, 10), -110, 0);
    }

    private static void panelRefusals() {
        for (int sheet : new int[] {-1, 4, LEAST, MOST}) {
            refused("2 no SHEET " + sheet, x -> x.panel(sheet, 0, 0, 11), UNKNOWN, 0);
        }
        for (int lane : new int[] {-1, 3, LEAST, MOST}) {
            refused("2 no LANE " + lane, x -> x.panel(0, lane, 0, 11), OUTSIDE, 0);
        }
        for (int lane = 0; lane < 3; lane++) {
            int as = lane;
            refused("2 nothing is no CAST", x -> x.panel(3, as, 0, 0), NULL, 1);
            for (int sheet = 0; sheet < 3; sheet++) {
                int of = sheet;
                refused("2 CAST of SHEET " + sheet + " as " + lane,
                    x -> x.panel(of, as, 0, 0), of == as ? -100 : CAST, of == as ? 0 : 2);
            }
        }
        for (int n : new int[] {-1, LEAST}) {
            refused("2 SIZE " + n, x -> x.panel(0, 0, 0, n), SIZE, 4);
        }
        refused("2 i as great as the row, none is taken", x -> x.panel(0, 0, 11, 0), -100, 0);
        refused("2 the last cell", x -> x.panel(0, 0, 10, 1), -100, 0);
        int[][] beyond = {{12, 0}, {-1, 0}, {LEAST, 0}, {MOST, 0}, {11, 1}, {10, 2}, {0, 12}, {1, 11}, {-1, 1}, {-1, 12},
            {0, MOST}, {1, MOST}, {MOST, 1}, {MOST, MOST}, {LEAST, MOST}};
        for (int[] cells : beyond) {
            refused("2 INDEX " + cells[0] + " " + cells[1], x -> x.panel(0, 0, cells[0], cells[1]), INDEX, 3);
        }
        Edges.Scene noCells = () -> {
            BarFigures x = Edges.worn();
            x.sheet(2, 1, 0);
            return x;
        };
        Edges.leavesAll("2 no cells of none", noCells, x -> x.panel(2, 1, 0, 0), -100, 0);
        Edges.leavesAll("2 a cell of none", noCells, x -> x.panel(2, 1, 0, 1), INDEX, 3);
        Edges.leavesAll("2 from 1 on of none", noCells, x -> x.panel(2, 1, 1, 0), INDEX, 3);
    }

    private static void panelOrderOfRefusals() {
        refused("2 UNKNOWN ahead of OUTSIDE", x -> x.panel(4, 3, 0, 11), UNKNOWN, 0);
        refused("2 UNKNOWN ahead of SIZE", x -> x.panel(-1, 0, 0, -1), UNKNOWN, 0);
        refused("2 UNKNOWN ahead of INDEX", x -> x.panel(4, 0, 12, 0), UNKNOWN, 0);
        refused("2 OUTSIDE ahead of NULL", x -> x.panel(3, 3, 0, 0), OUTSIDE, 0);
        refused("2 OUTSIDE ahead of SIZE", x -> x.panel(0, -1, 0, -1), OUTSIDE, 0);
        refused("2 OUTSIDE ahead of INDEX", x -> x.panel(0, 3, 12, 0), OUTSIDE, 0);
        refused("2 CAST ahead of SIZE", x -> x.panel(0, 1, 0, -1), CAST, 2);
        refused("2 CAST ahead of INDEX", x -> x.panel(0, 1, 12, 0), CAST, 2);
        refused("2 CAST ahead of the FIRST FAULT", x -> x.panel(0, 1, 0, 3), CAST, 2);
        refused("2 NULL ahead of SIZE", x -> x.panel(3, 0, 0, -1), NULL, 1);
        refused("2 NULL ahead of INDEX", x -> x.panel(3, 0, 1, 1), NULL, 1);
        refused("2 SIZE ahead of INDEX", x -> x.panel(0, 0, 12, -1), SIZE, 4);
        refused("2 SIZE ahead of INDEX", x -> x.panel(0, 0, -1, LEAST), SIZE, 4);
        refused("2 INDEX ahead of the FIRST FAULT", x -> x.panel(1, 1, 0, 7), INDEX, 3);
    }

    private static void ofPlaceEdges() {
        for (int k : new int[] {-1, 3, LEAST, MOST}) {
            refused("3 no PLACE " + k, x -> x.ofPlace(k, 0), UNKNOWN, KEPT);
        }
        for (int what : new int[] {-1, 5, LEAST, MOST}) {
            refused("3 OUTSIDE " + what, x -> x.ofPlace(0, what), OUTSIDE, KEPT);
            refused("3 UNKNOWN ahead of OUTSIDE " + what, x -> x.ofPlace(3, what), UNKNOWN, KEPT);
        }
        refused("3 the first PLACE", x -> x.ofPlace(0, 0), 0, KEPT);
        refused("3 the last PLACE", x -> x.ofPlace(2, 0), 2, KEPT);
        BarFigures four = Edges.with("p09;f000000;f000000;f000000;m000000");
        due("3 the last PLACE of four", four.ofPlace(3, 0), 1);
        due("3 no fifth", four.ofPlace(4, 0), UNKNOWN);
        BarFigures one = Edges.with("p09;f127000");
        due("3 none burns: one set for the ten", one.ofPlace(0, 3), 1);
        due("3 none burns", one.ofPlace(0, 4), 0);
        due("3 no second PLACE", one.ofPlace(1, 0), UNKNOWN);
        one.jam(0, 127);
        due("3 all burn: one set for the ten", one.ofPlace(0, 3), 1);
        due("3 all burn, DEAD or not", one.ofPlace(0, 4), 127);
        one.jam(0, 0);
        one.kill(0, 0);
        due("3 all unlike", one.ofPlace(0, 3), 10);
        one.go(9);
        due("3 what BURNS now: of 9", one.ofPlace(0, 4), 111);
        one.kill(0, 0);
        one.go(1);
        due("3 what BURNS now: of 0 behind LAST", one.ofPlace(0, 4), 63);
    }

    private static void wearEdges() {
        for (int k : new int[] {-1, 3, LEAST, MOST}) {
            refused("4 no PLACE " + k, x -> x.wear(k, 0), UNKNOWN, KEPT);
        }
        for (int bar : new int[] {-1, 7, LEAST, MOST}) {
            refused("4 no bar " + bar, x -> x.wear(0, bar), UNKNOWN, KEPT);
            refused("4 neither PLACE nor bar " + bar, x -> x.wear(3, bar), UNKNOWN, KEPT);
        }
        // the flips of ten steps from 0 to 0, bar by bar
        int[] round = {4, 2, 2, 6, 8, 4, 4};
        BarFigures x = Edges.with("p99;f000000;f000000");
        x.go(100);
        for (int bar = 0; bar < 7; bar++) {
            due("4 WEAR of bar " + bar, x.wear(0, bar), round[bar]);
            due("4 WEAR of bar " + bar, x.wear(1, bar), Math.min(99, 10 * round[bar]));
        }
        x.go(500);
        due("4 WEAR is LIFE at most, as the bar is DEAD then", x.wear(1, 4), 99);
        BarFigures still = Edges.with("p99;f008016");
        still.go(10);
        due("4 a DEAD bar has no FLIPS", still.wear(0, 3), 0);
        due("4 a STUCK bar has no FLIPS", still.wear(0, 4), 0);
        due("4 the others have", still.wear(0, 6), 4);
    }

    private static void killEdges() {
        for (int k : new int[] {-1, 3, LEAST, MOST}) {
            refused("5 no PLACE " + k, x -> x.kill(k, 0), UNKNOWN, KEPT);
        }
        for (int set : new int[] {-1, 128, LEAST, MOST}) {
            refused("5 OUTSIDE " + set, x -> x.kill(0, set), OUTSIDE, KEPT);
            refused("5 UNKNOWN ahead of OUTSIDE " + set, x -> x.kill(3, set), UNKNOWN, KEPT);
        }
        refused("5 the set that it was", x -> x.kill(0, 10), 10, KEPT);
        BarFigures x = Edges.with("p99;f000000;f000000;f000000;f000000");
        due("5 the greatest set", x.kill(3, 127), 0);
        due("5 the greatest set", x.ofPlace(3, 1), 127);
        due("5 the least set", x.kill(3, 0), 127);
        due("5 the least set", x.ofPlace(3, 1), 0);
        due("5 other PLACES are as they were", x.many(3), 0);
        x.go(10);
        for (int bar = 0; bar < 7; bar++) {
            int worn = x.wear(3, bar);
            due("5 each of ten steps wears", worn > 0 ? 1 : 0, 1);
            x.kill(3, 1 << bar);
            due("5 made DEAD, it has its WEAR", x.wear(3, bar), worn);
            x.kill(3, 1 << bar);
            due("5 DEAD as it was, it has its WEAR", x.wear(3, bar), worn);
            x.kill(3, 0);
            due("3 made whole, it has no WEAR", x.wear(3, bar), 0);
            for (int other = bar + 1; other < 7; other++) {
                due("3 the others were not DEAD", x.wear(3, other) > 0 ? 1 : 0, 1);
            }
        }
    }

    private static void bothMadeWholeAndNot() {
        BarFigures x = Edges.with("p02;f000000");
        x.go(2);
        due("5 worn out: DEAD", x.kill(0, 8 | 64), 1 | 8 | 16);
        int[] wears = {0, 0, 1, 2, 0, 1, 1};
        for (int bar = 0; bar < 7; bar++) {
            due("3 just the bars that are made whole have no WEAR: " + bar, x.wear(0, bar), wears[bar]);
        }
    }

    private static void jamEdges() {
        for (int k : new int[] {-1, 3, LEAST, MOST}) {
            refused("6 no PLACE " + k, x -> x.jam(k, 0), UNKNOWN, KEPT);
        }
        for (int set : new int[] {-1, 128, LEAST, MOST}) {
            refused("6 OUTSIDE " + set, x -> x.jam(0, set), OUTSIDE, KEPT);
            refused("6 UNKNOWN ahead of OUTSIDE " + set, x -> x.jam(3, set), UNKNOWN, KEPT);
        }
        refused("6 the set that it was", x -> x.jam(1, 65), 65, KEPT);
        BarFigures x = Edges.with("p99;f000000;f001000;f000000;f000000");
        x.go(10);
        int worn = x.wear(3, 4);
        due("6 the greatest set", x.jam(3, 127), 0);
        due("6 the greatest set", x.burns(3, 1), 127);
        due("6 WEAR is as it was", x.wear(3, 4), worn);
        due("6 the least set", x.jam(3, 0), 127);
        due("6 the least set", x.burns(3, 1), 6);
        due("6 WEAR is as it was", x.wear(3, 4), worn);
        due("6 other PLACES are as they were", x.ofPlace(2, 2), 0);
        x.jam(1, 3);
        due("1 STUCK bars BURN, DEAD or not", x.burns(1, 5), 109 | 3);
        due("1 DEAD is as it was", x.ofPlace(1, 1), 1);
    }

    private static void burnsEdges() {
        for (int k : new int[] {-1, 3, LEAST, MOST}) {
            refused("7 no PLACE " + k, x -> x.burns(k, 0), UNKNOWN, KEPT);
        }
        for (int digit : new int[] {-1, 10, LEAST, MOST}) {
            refused("7 OUTSIDE " + digit, x -> x.burns(0, digit), OUTSIDE, KEPT);
            refused("7 UNKNOWN ahead of OUTSIDE " + digit, x -> x.burns(3, digit), UNKNOWN, KEPT);
        }
        refused("7 the least digit", x -> x.burns(0, 0), 63 & ~10, KEPT);
        refused("7 the greatest digit", x -> x.burns(0, 9), 111 & ~10, KEPT);
        refused("7 the greatest digit at the last PLACE", x -> x.burns(2, 9) & 8, 0, KEPT);
    }

    private static void digitsEdges() {
        for (int k : new int[] {-1, 3, LEAST, MOST}) {
            refused("8 no PLACE " + k, x -> x.digits(k, 0), UNKNOWN, KEPT);
        }
        for (int set : new int[] {-1, 128, LEAST, MOST}) {
            refused("8 OUTSIDE " + set, x -> x.digits(0, set), OUTSIDE, KEPT);
            refused("8 UNKNOWN ahead of OUTSIDE " + set, x -> x.digits(3, set), UNKNOWN, KEPT);
        }
        BarFigures x = Edges.with("p99;f000000;f127000;f000127;f000000");
        due("8 the least set: no digit", x.digits(0, 0), 0);
        due("8 the greatest set", x.digits(0, 127), 1 << 8);
        due("8 the least set: all digits", x.digits(1, 0), 1023);
        due("8 the greatest set: all digits", x.digits(2, 127), 1023);
        due("8 just that set", x.digits(2, 126), 0);
        due("8 the last PLACE", x.digits(3, 111), 1 << 9);
    }

    public static void main(String[] args) {
        newObject();
        everyCodeAtEveryPlace();
        codesAreCutByLanesAlone();
        textsThatEnd();
        textsInARow();
        leastAndGreatestOfATextStay();
        aTakenTextMakesAllAnew();
        aFaultyTextChangesNothing();
        panelRefusals();
        panelOrderOfRefusals();
        ofPlaceEdges();
        wearEdges();
        killEdges();
        bothMadeWholeAndNot();
        jamEdges();
        burnsEdges();
        digitsEdges();
        Edges.end();
    }
}
