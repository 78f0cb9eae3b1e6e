/**
 * Each promise of the document with answers worked out by hand: ordinary inputs, the edges that the
 * document names, and wrong inputs.
 */
public final class PromisesTest {
    private static final int UNKNOWN = -1, OUTSIDE = -2, STATE = -3, FULL = -4, NONE = -9;
    private static final int NULL = -11, CAST = -12, INDEX = -13, SIZE = -14;
    private static final long LOST = Long.MIN_VALUE;
    private static final int LEAST = Integer.MIN_VALUE, MOST = Integer.MAX_VALUE;
    private static final int[] FIGURES = {63, 6, 91, 79, 102, 109, 125, 7, 127, 111};

    private static int wrong = 0;

    private static void due(String what, long got, long want) {
        if (got != want) {
            wrong++;
            System.out.println(what + " answered " + got + ", due is " + want);
        }
    }

    private static void row(BarFigures x, int sheet, int lane, int... cells) {
        due("sheet", x.sheet(sheet, lane, cells.length), 1);
        for (int i = 0; i < cells.length; i++) {
            due("put", x.put(sheet, i, cells[i]), 1);
        }
    }

    /** The text as a row of ints in sheet 3. */
    private static int panelBy(BarFigures x, String text) {
        row(x, 3, 2, text.chars().toArray());
        return x.panel(3, 2, 0, text.length());
    }

    private static BarFigures with(String text) {
        BarFigures x = new BarFigures();
        due(text, panelBy(x, text), (text.length() - 3) / 8);
        return x;
    }

    private static void newObject() {
        BarFigures x = new BarFigures();
        for (int what = 0; what <= 4; what++) {
            due("1 many", x.many(what), 0);
        }
        for (int k = 0; k < 4; k++) {
            due("1 place", x.ofPlace(k, 0), UNKNOWN);
            due("1 sheet", x.cell(k, 0, 0), LOST);
            due("1 sheet is nothing", x.fault(), 1);
            due("1 lose", x.lose(k), 0);
        }
        due("1 trace", x.trace(), 0);
        due("1 fault", new BarFigures().fault(), 0);
        due("1 pictures", x.pictures(), STATE);
    }

    private static void panelTexts() {
        BarFigures x = new BarFigures();
        due("2 one place", panelBy(x, "p01;f000000"), 1);
        due("2 four places", panelBy(x, "p99;f127127;m001002;t119109;f100010"), 4);
        due("2 life", x.many(1), 99);
        due("2 kind", x.ofPlace(2, 0), 2);
        due("2 dead", x.ofPlace(2, 1), 119);
        due("2 stuck", x.ofPlace(2, 2), 109);
        String[] faulty = {"", "q", "p", "pp", "p0", "p00;f000000", "p0a", "p1;", "p10", "p10f", "p10;",
            "p10;x", "p10;F", "p10;f", "p10;f2", "p10;f;", "p10;f1", "p10;f13", "p10;f03", "p10;f12",
            "p10;f128", "p10;f12:", "p10;f127", "p10;f1272", "p10;f12703", "p10;f12713", "p10;f127128",
            "p10;f12712", "p10;f000000x", "p10;f000000;", "p10;f000000;f00000",
            "p10;f000000;f000000;f000000;f000000;", "p10;f000000;f000000;f000000;f000000f",
            "p10;f000000;f000000;f000000;f000000;f000000", "p10;f000000;f000000;f000000;f0000",
            "p10;f099099;f000000p", "p1", "p/1", "p1:", "p10;f/", "p10;f0:"};
        int[] places = {0, 0, 1, 1, 2, 2, 2, 2, 3, 3, 4,
            4, 4, 5, 5, 5, 6, 6, 7, 7,
            7, 7, 8, 8, 10, 9, 10,
            10, 11, 12, 18,
            35, 35,
            35, 33,
            19, 2, 1, 2, 5, 6};
        for (int t = 0; t < faulty.length; t++) {
            BarFigures y = with("p99;f127127;m001002;t119109;f100010");
            due("2 " + faulty[t], panelBy(y, faulty[t]), -100 - places[t]);
            due("2 no fault by " + faulty[t], y.fault(), 0);
            due("2 a faulty text changes nothing", y.ofPlace(2, 1), 119);
            due("2 a faulty text changes nothing", y.many(0), 4);
        }
    }

    private static void panelAnew() {
        BarFigures x = with("p05;f001002;f000000");
        due("2 go", x.go(3), 0);
        due("2 reading", x.reading(0, 0, 0), 0);
        due("2 hum", x.hum(1), 1);
        due("2 anew", panelBy(x, "p07;m003004"), 1);
        due("2 places", x.many(0), 1);
        due("2 life", x.many(1), 7);
        due("2 shown", x.many(2), 0);
        due("2 readings", x.many(4), 0);
        due("2 trace stays", x.trace(), 4);
        due("2 sheets stay", x.cell(3, 0, 2), 'p');
        due("2 the second place is gone", x.ofPlace(1, 0), UNKNOWN);
        for (int bar = 0; bar < 7; bar++) {
            due("2 wear", x.wear(0, bar), 0);
        }
    }

    private static void panelRefusals() {
        BarFigures x = new BarFigures();
        due("2 first UNKNOWN", x.panel(4, 3, -1, -1), UNKNOWN);
        due("2 UNKNOWN", x.panel(-1, 0, 0, 0), UNKNOWN);
        due("2 then OUTSIDE", x.panel(0, 3, -1, -1), OUTSIDE);
        due("2 OUTSIDE", x.panel(0, -1, 0, 0), OUTSIDE);
        due("2 nothing is no CAST", x.panel(0, 1, -1, -1), NULL);
        row(x, 0, 0, 'p', '1', '0', ';', 'f', '0', '0', '0', '0', '0', '0');
        due("2 CAST ahead of SIZE", x.panel(0, 1, -1, -1), CAST);
        due("2 SIZE ahead of INDEX", x.panel(0, 0, -1, -1), SIZE);
        due("2 fault", x.fault(), 4);
        due("2 INDEX", x.panel(0, 0, -1, 0), INDEX);
        due("2 INDEX", x.panel(0, 0, 12, 0), INDEX);
        due("2 INDEX", x.panel(0, 0, 1, 11), INDEX);
        due("2 INDEX that wraps", x.panel(0, 0, 1, MOST), INDEX);
        due("2 INDEX that wraps", x.panel(0, 0, MOST, MOST), INDEX);
        due("2 at the end none is taken", x.panel(0, 0, 11, 0), -100);
        due("2 from 1 on", x.panel(0, 0, 1, 10), -100);
        due("2 bytes", x.panel(0, 0, 0, 11), 1);
        due("2 refused", x.panel(4, 0, 0, 11), UNKNOWN);
        due("2 fault by a refusal", x.fault(), 0);
    }

    private static void ofPlaces() {
        BarFigures x = with("p05;m000000;f127000;f001127");
        due("3 kind", x.ofPlace(0, 0), 1);
        due("3 mirrored 0 burns", x.ofPlace(0, 4), 63);
        due("3 unlike", x.ofPlace(0, 3), 10);
        due("3 all dead", x.ofPlace(1, 3), 1);
        due("3 all dead", x.ofPlace(1, 4), 0);
        due("3 stuck though dead", x.ofPlace(2, 4), 127);
        due("3 go", x.go(400), 0);
        due("3 digit 4 mirrored", x.ofPlace(0, 4), 64 | 32 | 16 | 2);
        due("3 OUTSIDE", x.ofPlace(0, 5), OUTSIDE);
        due("3 OUTSIDE", x.ofPlace(0, -1), OUTSIDE);
        due("3 UNKNOWN first", x.ofPlace(3, 5), UNKNOWN);
        due("3 UNKNOWN", x.ofPlace(-1, 0), UNKNOWN);
    }

    private static void wearOfBars() {
        BarFigures x = with("p09;f000000;f000000");
        due("4 go", x.go(2), 0);
        // 63 -> 6 flips bars 0 3 4 5, 6 -> 91 flips bars 0 2 3 4 6
        int[] wears = {2, 0, 1, 2, 2, 1, 1};
        for (int bar = 0; bar < 7; bar++) {
            due("4 wear of " + bar, x.wear(1, bar), wears[bar]);
            due("4 none ahead", x.wear(0, bar), 0);
        }
        due("4 bar", x.wear(0, 7), UNKNOWN);
        due("4 bar", x.wear(0, -1), UNKNOWN);
        due("4 place", x.wear(2, 0), UNKNOWN);
        due("4 place", x.wear(-1, 0), UNKNOWN);
    }

    private static void killAndJam() {
        BarFigures x = with("p09;f003000");
        due("5 go", x.go(2), 0);
        due("5 wear", x.wear(0, 3), 2);
        due("5 kill", x.kill(0, 9), 3);
        due("5 a dead bar keeps its wear", x.wear(0, 3), 2);
        due("5 still dead", x.kill(0, 8), 9);
        due("5 still dead, still worn", x.wear(0, 3), 2);
        due("5 a whole bar stays worn", x.wear(0, 4), 2);
        due("5 whole again", x.kill(0, 127), 8);
        due("5 all", x.kill(0, 0), 127);
        due("5 made whole: no wear", x.wear(0, 3), 0);
        due("5 OUTSIDE", x.kill(0, 128), OUTSIDE);
        due("5 OUTSIDE", x.kill(0, -1), OUTSIDE);
        due("5 UNKNOWN", x.kill(1, 128), UNKNOWN);
        due("5 nothing changed", x.kill(0, 0), 0);
        due("6 jam", x.jam(0, 64), 0);
        due("6 jam", x.jam(0, 127), 64);
        due("6 jam", x.jam(0, 5), 127);
        due("6 OUTSIDE", x.jam(0, 128), OUTSIDE);
        due("6 OUTSIDE", x.jam(0, -1), OUTSIDE);
        due("6 UNKNOWN", x.jam(1, -1), UNKNOWN);
        due("6 stuck", x.ofPlace(0, 2), 5);
        due("6 the wear of stuck bars stays", x.wear(0, 0), 0);
    }

    private static void burning() {
        BarFigures x = with("p09;f000000;m000000;t000000;f096003");
        int[] mirrored = {63, 48, 109, 121, 114, 91, 95, 49, 127, 123};
        int[] turned = {63, 48, 91, 121, 116, 109, 111, 56, 127, 125};
        for (int digit = 0; digit < 10; digit++) {
            due("7 fair " + digit, x.burns(0, digit), FIGURES[digit]);
            due("7 mirrored " + digit, x.burns(1, digit), mirrored[digit]);
            due("7 turned " + digit, x.burns(2, digit), turned[digit]);
            due("7 dead and stuck " + digit, x.burns(3, digit), FIGURES[digit] & 31 | 3);
            due("8 digits", x.digits(0, FIGURES[digit]), 1 << digit);
            due("8 digits", x.digits(2, turned[digit]), 1 << digit);
        }
        due("7 OUTSIDE", x.burns(0, 10), OUTSIDE);
        due("7 OUTSIDE", x.burns(0, -1), OUTSIDE);
        due("7 UNKNOWN", x.burns(4, 10), UNKNOWN);
        due("8 none", x.digits(0, 0), 0);
        // without the middle and the left above: 0, 6 and 8 burn as 31; 3 and 9 and 5 as 15
        due("8 several", x.digits(3, 31), 1 | 1 << 6 | 1 << 8);
        due("8 several", x.digits(3, 15), 1 << 3 | 1 << 5 | 1 << 9);
        due("8 OUTSIDE", x.digits(0, 128), OUTSIDE);
        due("8 OUTSIDE", x.digits(0, -1), OUTSIDE);
        due("8 UNKNOWN", x.digits(4, 128), UNKNOWN);
    }

    private static void numbers() {
        BarFigures x = with("p09;f000000;f000000");
        due("9 ahead a 0 burns too", x.bars(8), 6 + 7);
        due("9 bars", x.bars(71), 3 + 2);
        due("9 OUTSIDE", x.bars(100), OUTSIDE);
        due("9 OUTSIDE", x.bars(-1), OUTSIDE);
        due("9 STATE", new BarFigures().bars(-1), STATE);
        due("10 alone", x.alike(35), 1);
        due("11 itself", x.which(35, 0), 35);
        due("11 no more", x.which(35, 1), NONE);
        due("12 flips", x.flips(18, 71), 1 + 5);
        due("12 the same", x.flips(42, 42), 0);
        due("15 all", x.pictures(), 100);
        x.kill(0, 1);
        x.kill(1, 64);
        // the top is dead: 1 and 7 are alike; the middle is dead: 0 and 8
        due("10 alike", x.alike(10), 4);
        due("11 in order", x.which(78, 0), 10);
        due("11 in order", x.which(78, 1), 18);
        due("11 in order", x.which(78, 2), 70);
        due("11 in order", x.which(78, 3), 78);
        due("11 NONE", x.which(78, 4), NONE);
        due("11 NONE", x.which(78, 9999), NONE);
        due("11 OUTSIDE", x.which(78, 10000), OUTSIDE);
        due("11 OUTSIDE", x.which(78, -1), OUTSIDE);
        due("11 OUTSIDE", x.which(100, 0), OUTSIDE);
        due("11 STATE", new BarFigures().which(-1, -1), STATE);
        due("10 OUTSIDE", x.alike(100), OUTSIDE);
        due("10 OUTSIDE", x.alike(-1), OUTSIDE);
        due("10 STATE", new BarFigures().alike(-1), STATE);
        due("12 none that burns", x.flips(10, 78), 0);
        due("12 OUTSIDE", x.flips(100, 0), OUTSIDE);
        due("12 OUTSIDE", x.flips(0, -1), OUTSIDE);
        due("12 STATE", new BarFigures().flips(-1, 0), STATE);
        due("15 pictures", x.pictures(), 9 * 9);
        due("15 STATE", new BarFigures().pictures(), STATE);
        x = with("p01;f000127;f000127;f000127;f000127");
        due("10 all alike", x.alike(1234), 10000);
        due("11 the last", x.which(0, 9999), 9999);
        due("15 one", x.pictures(), 1);
    }

    private static void countingUp() {
        BarFigures x = with("p09;f000000;f000000");
        // 8 -> 9 one bar, 9 -> 10: 111 -> 63 two bars and 63 -> 6 four bars, 10 -> 11 four bars
        due("13 together", x.counting(8, 11, 1), 1 + 6 + 4);
        due("13 most", x.counting(8, 11, 2), 6);
        due("13 still", x.counting(8, 11, 0), 0);
        for (int what = 0; what < 3; what++) {
            due("13 no step", x.counting(5, 5, what), 0);
        }
        due("13 v below u", x.counting(5, 4, 0), OUTSIDE);
        due("13 u", x.counting(-1, 4, 0), OUTSIDE);
        due("13 v", x.counting(0, 100, 0), OUTSIDE);
        due("13 what", x.counting(0, 1, 3), OUTSIDE);
        due("13 what", x.counting(0, 1, -1), OUTSIDE);
        due("13 STATE", new BarFigures().counting(-1, 0, 9), STATE);
        due("13 nothing wears", x.wear(1, 0), 0);
        x.kill(1, 127);
        due("13 still but for tens", x.counting(0, 99, 0), 90);
        // 0 to 9 by one: 4 5 2 3 3 1 5 4 1 bars
        due("13 the tens alone", x.counting(0, 99, 1), 4 + 5 + 2 + 3 + 3 + 1 + 5 + 4 + 1);
        due("13 the tens alone", x.counting(0, 99, 2), 5);
    }

    private static void nearest() {
        BarFigures x = with("p09;f000000;f000000");
        // one bar: 0 8, 1 7, 3 9, 5 6, 5 9, 6 8, 8 9
        due("14 flips", x.near(44, 0), 2);
        due("14 of several the least", x.near(44, 1), 14);
        due("14 flips", x.near(55, 0), 1);
        due("14 below at the lower place", x.near(55, 1), 56);
        due("14 the least has the higher digit changed", x.near(88, 1), 8);
        due("14 other than it", x.near(0, 1), 8);
        due("14 OUTSIDE", x.near(100, 0), OUTSIDE);
        due("14 OUTSIDE", x.near(0, 2), OUTSIDE);
        due("14 OUTSIDE", x.near(0, -1), OUTSIDE);
        due("14 STATE", new BarFigures().near(-1, 5), STATE);
        x.jam(0, 127);
        due("14 alike", x.near(0, 0), 0);
        due("14 alike, above", x.near(0, 1), 10);
        due("14 alike, below", x.near(35, 1), 5);
    }

    private static void steps() {
        BarFigures x = with("p02;f000000");
        due("16 OUTSIDE", x.go(0), OUTSIDE);
        due("16 OUTSIDE", x.go(501), OUTSIDE);
        due("16 OUTSIDE", x.go(LEAST), OUTSIDE);
        due("16 STATE", new BarFigures().go(0), STATE);
        due("17 bar 0", x.dies(0, 0), 2);
        due("17 bar 1", x.dies(0, 1), 6 + 1);
        due("17 bar 2", x.dies(0, 2), 3);
        due("17 bar 5", x.dies(0, 5), 4);
        due("18 steps", x.first(2), 2);
        due("18 bar", x.first(1), 0);
        // bars 0, 3 and 4 flip at 0 -> 1 and at 1 -> 2
        due("16 three die", x.go(2), 3);
        due("16 they are dead", x.ofPlace(0, 1), 1 | 8 | 16);
        due("16 what burns now", x.ofPlace(0, 4), 91 & ~25);
        due("16 shown", x.many(2), 2);
        due("17 dead now", x.dies(0, 0), NONE);
        due("18 the next", x.first(1), 2);
        due("16 on", x.go(7), 4);
        due("16 all are dead", x.many(3), 7);
        due("16 wraps", x.go(1), 0);
        due("16 0 behind LAST", x.many(2), 0);
        due("18 NONE", x.first(0), NONE);
        due("18 NONE", x.first(1), NONE);
        due("18 NONE", x.first(2), NONE);
        due("16 dead bars do not wear", x.wear(0, 0), 2);
        due("17 UNKNOWN", x.dies(0, 7), UNKNOWN);
        due("17 UNKNOWN", x.dies(0, -1), UNKNOWN);
        due("17 UNKNOWN", x.dies(1, 0), UNKNOWN);
        due("18 OUTSIDE", x.first(3), OUTSIDE);
        due("18 OUTSIDE", x.first(-1), OUTSIDE);
        due("18 OUTSIDE ahead of STATE", new BarFigures().first(3), OUTSIDE);
        due("18 STATE", new BarFigures().first(0), STATE);
    }

    private static void deathsFarAhead() {
        BarFigures x = with("p01;f000127;f000127;f000127;f000127");
        due("17 stuck bars do not flip", x.dies(3, 0), NONE);
        due("18 none flips", x.first(2), NONE);
        x.jam(0, 0);
        due("17 behind 1000 steps", x.dies(0, 0), 1000);
        due("17 not by then", x.dies(0, 1), NONE);
        due("18 the place", x.first(0), 0);
        due("18 the bar", x.first(1), 0);
        due("18 the steps", x.first(2), 1000);
        x.go(1);
        due("17 nearer", x.dies(0, 5), 999);
        x.jam(0, 127);
        x.jam(1, 126);
        x.jam(2, 0);
        due("18 the lower place is earlier", x.first(0), 2);
        due("18 the lower place is earlier", x.first(2), 9);
        x = with("p01;f000000;f000000");
        x.go(9);
        // with the next step both places flip: of those bars the least at the least place
        due("18 of several the least place", x.first(0), 0);
        due("18 of several the least place", x.first(2), 1);
        due("18 asking wears nothing", x.many(2), 9);
        x = with("p01;f000127;f000127;f000127;f000127");
        for (int t = 0; t < 19; t++) {
            x.go(500);
        }
        x.go(499);
        x.jam(0, 0);
        // 9999 is shown: the first step flips bars 4 and 6, bar 0 flips behind 1001 steps
        due("17 behind one step", x.dies(0, 4), 1);
        due("17 behind 1001 steps", x.dies(0, 0), NONE);
        x = with("p05;f000000");
        x.go(9);
        // the middle has flipped with 1 -> 2, 6 -> 7, 7 -> 8, and does with 9 -> 0 and 1 -> 2
        due("17 over LAST", x.dies(0, 6), 3);
    }

    private static void seenRows() {
        BarFigures x = with("p09;f000000;f001000");
        // the top of the second place is dead: 1 and 7 are alike there
        row(x, 0, 1, 6, 6, 6, 126, 6, 128, 63, 6);
        due("19 how many", x.seen(0, 1, 0, 1, 5, 0), 2);
        due("19 least", x.seen(0, 1, 0, 1, 5, 1), 11);
        due("19 greatest", x.seen(0, 1, 0, 1, 5, 2), 17);
        due("19 by one", x.seen(0, 1, 0, 2, 1, 0), 1);
        due("19 by one", x.seen(0, 1, 0, 2, 1, 1), 17);
        due("19 by seven", x.seen(0, 1, 0, 2, 7, 2), 11);
        due("19 none", x.seen(0, 1, 0, 2, 2, 0), 0);
        due("19 no least", x.seen(0, 1, 0, 2, 2, 1), NONE);
        due("19 no greatest", x.seen(0, 1, 0, 2, 2, 2), NONE);
        due("19 no rows", x.seen(0, 1, 8, 0, 2, 0), 100);
        due("19 no rows", x.seen(0, 1, 8, 0, 2, 1), 0);
        due("19 no rows", x.seen(0, 1, 8, 0, 2, 2), 99);
        due("19 a place later", x.seen(0, 1, 6, 1, 0, 0), 2);
        due("19 beyond", x.seen(0, 1, 9, 0, 2, 2), INDEX);
        due("19 beyond", x.seen(0, 1, 7, 1, 2, 2), INDEX);
        due("19 below", x.seen(0, 1, -1, 0, 2, 2), INDEX);
        due("19 beyond", x.seen(0, 1, MOST, 10, 2, 2), INDEX);
        due("19 fault", x.fault(), 3);
        due("19 no set", x.seen(0, 1, 4, 1, 2, 2), OUTSIDE);
        due("19 refused", x.fault(), 0);
        x.put(0, 0, -1);
        due("19 no set", x.seen(0, 1, 0, 1, 2, 2), OUTSIDE);
        due("19 CAST", x.seen(0, 2, 99, 1, 2, 2), CAST);
        due("19 NULL", x.seen(1, 0, 99, 1, 2, 2), NULL);
        due("19 UNKNOWN", x.seen(4, 3, 99, 11, 100, 3), UNKNOWN);
        due("19 lane", x.seen(0, 3, 0, 1, 2, 2), OUTSIDE);
        due("19 n", x.seen(0, 1, 0, 11, 2, 2), OUTSIDE);
        due("19 n", x.seen(0, 1, 0, -1, 2, 2), OUTSIDE);
        due("19 s", x.seen(0, 1, 0, 1, 100, 2), OUTSIDE);
        due("19 s", x.seen(0, 1, 0, 1, -1, 2), OUTSIDE);
        due("19 what", x.seen(0, 1, 0, 1, 0, 3), OUTSIDE);
        due("19 what", x.seen(0, 1, 0, 1, 0, -1), OUTSIDE);
        due("19 OUTSIDE ahead of STATE", new BarFigures().seen(0, 3, 0, 1, 0, 0), OUTSIDE);
        due("19 STATE ahead of NULL", new BarFigures().seen(0, 0, 0, 1, 0, 0), STATE);
    }

    private static void seenNoneAboveLast() {
        BarFigures x = with("p09;f000127");
        row(x, 0, 0, 127, 127, 127, 127, 127, 127, 127, 127, 127, 127);
        due("19 ten rows by one", x.seen(0, 0, 0, 10, 1, 0), 1);
        due("19 two rows by nine", x.seen(0, 0, 0, 2, 9, 0), 1);
        due("19 two rows by ten", x.seen(0, 0, 0, 2, 10, 0), 0);
        due("19 three rows by two", x.seen(0, 0, 0, 3, 2, 2), 5);
        due("19 ten rows by none", x.seen(0, 0, 0, 10, 0, 0), 10);
    }

    private static void repairs() {
        BarFigures x = with("p09;f000000;f064000;f127000;f000064");
        due("20 clear now", x.repair(0), 0);
        due("20 the middle", x.repair(1), 64);
        // 0 8 need the middle, 1 7 the top, 8 9 below at the left, 3 9 above at the left, 6 8 above at
        // the right; by these five all ten are unlike
        due("20 five of seven", x.repair(2), 1 | 2 | 16 | 32 | 64);
        due("20 stuck", x.repair(3), NONE);
        x.kill(0, 8);
        due("20 dead, but clear", x.repair(0), 0);
        x.jam(1, 64);
        due("20 stuck and dead", x.repair(1), NONE);
        due("20 UNKNOWN", x.repair(4), UNKNOWN);
        due("20 UNKNOWN", x.repair(-1), UNKNOWN);
        due("20 nothing is mended", x.ofPlace(2, 1), 127);
        x = with("p09;m127000;t127000");
        due("20 mirrored", x.repair(0), 1 | 32 | 4 | 2 | 64);
        due("20 turned", x.repair(1), 8 | 16 | 2 | 4 | 64);
    }

    private static void orders() {
        BarFigures x = with("p09;f000000");
        // flips: 1 7 one, 1 8 five, 7 8 four, 8 0 one
        row(x, 0, 2, 1, 8, 7, 0, 10, -1);
        due("21 flips", x.order(0, 2, 0, 3, 0), 5);
        due("21 its first", x.order(0, 2, 0, 3, 10), 0);
        due("21 its second", x.order(0, 2, 0, 3, 11), 2);
        due("21 its third", x.order(0, 2, 0, 3, 12), 1);
        due("21 no fourth", x.order(0, 2, 0, 3, 13), NONE);
        due("21 from 1 on", x.order(0, 2, 1, 3, 0), 4);
        due("21 from 1 on", x.order(0, 2, 1, 3, 10), 0);
        due("21 from 1 on", x.order(0, 2, 1, 3, 11), 2);
        due("21 none", x.order(0, 2, 6, 0, 0), 0);
        due("21 none", x.order(0, 2, 6, 0, 10), NONE);
        due("21 one", x.order(0, 2, 3, 1, 10), 0);
        due("21 no NUMBER", x.order(0, 2, 3, 2, 0), OUTSIDE);
        due("21 no NUMBER", x.order(0, 2, 5, 1, 0), OUTSIDE);
        due("21 refused", x.fault(), 0);
        due("21 INDEX", x.order(0, 2, 7, 0, 0), INDEX);
        due("21 INDEX", x.order(0, 2, -1, 0, 0), INDEX);
        due("21 INDEX ahead of no NUMBER", x.order(0, 2, 5, 2, 0), INDEX);
        due("21 fault", x.fault(), 3);
        due("21 CAST", x.order(0, 1, 9, 1, 0), CAST);
        due("21 NULL", x.order(1, 1, 9, 1, 0), NULL);
        due("21 UNKNOWN", x.order(-1, 3, 9, 7, 1), UNKNOWN);
        due("21 lane", x.order(0, 3, 0, 1, 0), OUTSIDE);
        due("21 n", x.order(0, 2, 0, 7, 0), OUTSIDE);
        due("21 n", x.order(0, 2, 0, -1, 0), OUTSIDE);
        int[] outside = {-1, 1, 9, 16, LEAST, MOST};
        for (int what : outside) {
            due("21 what", x.order(0, 2, 0, 1, what), OUTSIDE);
        }
        due("21 OUTSIDE ahead of STATE", new BarFigures().order(0, 0, 0, 0, 1), OUTSIDE);
        due("21 STATE", new BarFigures().order(0, 0, 0, 0, 0), STATE);
        row(x, 0, 0, 5, 5, 5, 5, 5, 5);
        for (int k = 0; k < 6; k++) {
            due("21 all the same", x.order(0, 0, 0, 6, 10 + k), k);
        }
    }

    private static void readingsBackAndForth() {
        BarFigures x = with("p09;f000000;f000000");
        for (int r = 0; r < 8; r++) {
            due("22 its number", x.reading(0, 8, 127), r);
        }
        due("22 FULL", x.reading(0, 8, 127), FULL);
        due("22 OUTSIDE ahead of FULL", x.reading(0, 10, 127), OUTSIDE);
        due("22 OUTSIDE", x.reading(0, -1, 127), OUTSIDE);
        due("22 OUTSIDE", x.reading(0, 8, 128), OUTSIDE);
        due("22 OUTSIDE", x.reading(0, 8, -1), OUTSIDE);
        due("22 UNKNOWN", x.reading(2, 10, 128), UNKNOWN);
        due("23 OUTSIDE", x.back(9), OUTSIDE);
        due("23 OUTSIDE", x.back(-1), OUTSIDE);
        due("23 none", x.back(0), 8);
        due("23 three", x.back(3), 5);
        due("23 many", x.many(4), 5);
        due("22 the next", x.reading(1, 0, 0), 5);
        due("24 it is not so", x.deads(0, 0), 0);
        due("23 the last", x.back(1), 5);
        due("24 the first are so", x.deads(0, 0), 1);
        due("23 all", x.back(5), 0);
        due("23 without a panel", new BarFigures().back(0), 0);
        due("23 without a panel", new BarFigures().back(1), OUTSIDE);
    }

    private static void deadsByReadings() {
        BarFigures x = with("p09;f000000;f000000");
        due("24 all", x.deads(0, 0), 128);
        due("24 in all", x.deads(0, 1), 0);
        due("24 in any", x.deads(0, 2), 127);
        due("24 least", x.deads(0, 3), 0);
        x.reading(0, 1, 2);
        // of bars 1 and 2 just the second is dead, of the others any
        due("24 how many", x.deads(0, 0), 32);
        due("24 in all", x.deads(0, 1), 4);
        due("24 in any", x.deads(0, 2), 125);
        due("24 least", x.deads(0, 3), 4);
        due("24 the other place: not so", x.deads(1, 0), 0);
        due("24 NONE", x.deads(1, 1), NONE);
        due("24 NONE", x.deads(1, 2), NONE);
        due("24 NONE", x.deads(1, 3), NONE);
        due("24 dead is as it was", x.ofPlace(0, 1), 0);
        x.kill(0, 4);
        due("24 the other place: any", x.deads(1, 0), 128);
        x.jam(0, 4);
        due("24 it is stuck", x.deads(0, 0), 0);
        x.jam(0, 2);
        due("24 stuck, dead or not", x.deads(0, 0), 64);
        due("24 OUTSIDE", x.deads(0, 4), OUTSIDE);
        due("24 OUTSIDE", x.deads(0, -1), OUTSIDE);
        due("24 UNKNOWN", x.deads(2, 4), UNKNOWN);
    }

    private static void kindsByReadings() {
        BarFigures x = with("p09;f000000;t000000");
        due("25 any", x.kinds(0), 7);
        x.reading(0, 8, 127);
        due("25 any", x.kinds(0), 7);
        x.reading(0, 2, 91);
        due("25 not mirrored", x.kinds(0), 5);
        x.reading(0, 1, 6);
        due("25 fair", x.kinds(0), 1);
        due("25 the other", x.kinds(1), 7);
        x.reading(1, 2, 109);
        due("25 mirrored, not turned as it is", x.kinds(1), 2);
        due("25 the first: not so", x.kinds(0), 0);
        due("25 the kind is as it was", x.ofPlace(1, 0), 2);
        x.kill(0, 1);
        due("25 by the bars that are dead", x.kinds(1), 0);
        due("25 UNKNOWN", x.kinds(2), UNKNOWN);
        due("25 UNKNOWN", x.kinds(-1), UNKNOWN);
    }

    private static void oddsOfNumbers() {
        BarFigures x = with("p09;f000000;f001000");
        // the lower place: 1 and 7 are alike, eight digits are not
        due("26 upper", x.odds(0), 4);
        due("26 lower", x.odds(1), 5);
        x.kill(1, 0);
        due("26 all", x.odds(0), 1);
        due("26 all", x.odds(1), 1);
        x.jam(0, 127);
        due("26 none", x.odds(0), 0);
        due("26 none", x.odds(1), 1);
        due("26 OUTSIDE", x.odds(2), LOST);
        due("26 OUTSIDE", x.odds(-1), LOST);
        due("26 STATE", new BarFigures().odds(0), LOST);
    }

    private static void sheets() {
        BarFigures x = new BarFigures();
        due("27 none", x.sheet(0, 0, 0), 1);
        due("27 sixty", x.sheet(3, 2, 60), 1);
        due("27 zeros", x.cell(3, 59, 2), 0);
        due("29 put", x.put(3, 59, LEAST), 1);
        due("30 cell", x.cell(3, 59, 2), LEAST);
        due("27 a new row", x.sheet(3, 2, 60), 1);
        due("27 zeros again", x.cell(3, 59, 2), 0);
        due("27 UNKNOWN", x.sheet(4, 3, 61), UNKNOWN);
        due("27 UNKNOWN", x.sheet(-1, 0, 0), UNKNOWN);
        due("27 OUTSIDE", x.sheet(0, 3, -1), OUTSIDE);
        due("27 OUTSIDE", x.sheet(0, -1, -1), OUTSIDE);
        due("27 OUTSIDE", x.sheet(0, 0, 61), OUTSIDE);
        due("27 SIZE", x.sheet(3, 0, -1), SIZE);
        due("36 fault", x.fault(), 4);
        due("27 the row is as it was", x.cell(3, 59, 2), 0);
        due("28 lose", x.lose(3), 1);
        due("28 lost already", x.lose(3), 0);
        due("28 UNKNOWN", x.lose(4), UNKNOWN);
        due("28 UNKNOWN", x.lose(-1), UNKNOWN);
        due("29 NULL", x.put(3, 0, 0), NULL);
        due("29 UNKNOWN", x.put(4, 0, 0), UNKNOWN);
        due("29 INDEX", x.put(0, 0, 0), INDEX);
        row(x, 1, 0, 127, 128, 255, 256, -129);
        int[] bytes = {127, -128, -1, 0, 127};
        row(x, 2, 1, 32767, 32768, 65535, 65536, -32769);
        int[] shorts = {32767, -32768, -1, 0, 32767};
        for (int i = 0; i < 5; i++) {
            due("29 bytes", x.cell(1, i, 0), bytes[i]);
            due("29 shorts", x.cell(2, i, 1), shorts[i]);
        }
        due("29 INDEX", x.put(1, 5, 0), INDEX);
        due("29 INDEX", x.put(1, -1, 0), INDEX);
        due("29 INDEX", x.put(1, MOST, 0), INDEX);
    }

    private static void cells() {
        BarFigures x = new BarFigures();
        row(x, 1, 1, 7, 8);
        due("30 cell", x.cell(1, 1, 1), 8);
        due("30 no fault", x.fault(), 0);
        due("30 INDEX", x.cell(1, 2, 1), LOST);
        due("30 INDEX", x.fault(), 3);
        due("30 below", x.cell(1, -1, 1), LOST);
        due("30 below", x.fault(), 3);
        due("30 CAST ahead of INDEX", x.cell(1, 2, 0), LOST);
        due("30 CAST", x.fault(), 2);
        due("30 nothing is no CAST", x.cell(0, 2, 1), LOST);
        due("30 NULL", x.fault(), 1);
        due("30 lane", x.cell(0, 0, 3), LOST);
        due("30 refused", x.fault(), 0);
        x.cell(0, 0, 0);
        due("30 UNKNOWN", x.cell(4, 0, 0), LOST);
        due("30 refused", x.fault(), 0);
    }

    private static void copies() {
        BarFigures x = new BarFigures();
        row(x, 0, 2, 1, 2, 3, 4, 5);
        due("31 onto itself", x.copy(0, 0, 0, 1, 4), 4);
        int[] up = {1, 1, 2, 3, 4};
        for (int i = 0; i < 5; i++) {
            due("31 as they were", x.cell(0, i, 2), up[i]);
        }
        row(x, 1, 2, 9, 9, 9);
        due("31 to another", x.copy(0, 3, 1, 1, 2), 2);
        due("31 to another", x.cell(1, 0, 2), 9);
        due("31 to another", x.cell(1, 1, 2), 3);
        due("31 to another", x.cell(1, 2, 2), 4);
        due("31 onto itself, down", x.copy(0, 1, 0, 0, 4), 4);
        due("31 down", x.cell(0, 3, 2), 4);
        due("31 none, at the ends", x.copy(0, 5, 1, 3, 0), 0);
        due("31 i", x.copy(0, 6, 1, 0, 0), INDEX);
        due("31 j", x.copy(0, 0, 1, 4, 0), INDEX);
        due("31 i below", x.copy(0, -1, 1, 0, 1), INDEX);
        due("31 j below", x.copy(0, 0, 1, -1, 1), INDEX);
        due("31 n below", x.copy(0, 0, 1, 0, -1), INDEX);
        due("31 beyond the first", x.copy(0, 4, 1, 0, 2), INDEX);
        due("31 beyond the other", x.copy(0, 0, 1, 0, 4), INDEX);
        due("31 wraps", x.copy(0, 1, 1, 1, MOST), INDEX);
        due("31 fault", x.fault(), 3);
        due("31 nothing changed", x.cell(1, 0, 2), 9);
        row(x, 2, 1, 0);
        due("31 CAST ahead of INDEX", x.copy(0, -1, 2, 0, 1), CAST);
        due("31 NULL ahead of CAST", x.copy(3, -1, 2, 0, 1), NULL);
        due("31 NULL", x.copy(0, -1, 3, 0, 1), NULL);
        due("31 UNKNOWN", x.copy(4, 0, 3, 0, 1), UNKNOWN);
        due("31 UNKNOWN", x.copy(3, 0, 4, 0, 1), UNKNOWN);
        due("31 UNKNOWN", x.copy(3, 0, -1, 0, 1), UNKNOWN);
        due("31 refused", x.fault(), 0);
    }

    private static void bodies() {
        BarFigures x = with("p09;f005000;m006000;t007000");
        due("32 fair", x.tell(0), 5);
        due("35 trace", x.trace(), 1);
        due("32 mirrored", x.tell(1), 106);
        due("35 trace", x.trace(), (1 * 31 + 2) * 31 + 1);
        BarFigures y = with("p09;f005000;m006000;t007000");
        due("32 turned", y.tell(2), 114);
        due("35 trace", y.trace(), ((3 * 31 + 2) * 31 + 1) * 31 + 1);
        BarFigures z = with("p09;t005000;m006000;f007000");
        due("33 turned", z.hum(0), 60);
        due("35 trace", z.trace(), 5);
        due("33 mirrored", z.hum(1), 1);
        due("35 trace", z.trace(), 5 * 31 + 4);
        due("33 fair", z.hum(2), 2);
        due("35 trace", z.trace(), (5 * 31 + 4) * 31 + 4);
        due("32 UNKNOWN", z.tell(3), UNKNOWN);
        due("32 UNKNOWN", z.tell(-1), UNKNOWN);
        due("33 UNKNOWN", z.hum(3), UNKNOWN);
        due("33 UNKNOWN", z.hum(-1), UNKNOWN);
        due("35 no trace of them", z.trace(), (5 * 31 + 4) * 31 + 4);
        int wraps = z.trace();
        for (int again = 0; again < 20; again++) {
            z.tell(2);
            wraps = wraps * 31 + 1;
        }
        due("35 trace wraps", z.trace(), wraps);
    }

    private static void casts() {
        BarFigures x = with("p09;f000000;m000000;t000000");
        for (int k = 0; k < 3; k++) {
            for (int kind = 0; kind < 3; kind++) {
                due("34 as " + k + " " + kind, x.as(k, kind), kind <= k ? 1 : CAST);
                due("36 fault", x.fault(), kind <= k ? 0 : 2);
            }
        }
        x.as(0, 2);
        due("36 other calls leave it", x.many(0) + x.tell(0) + x.lose(0) + x.kill(9, 9), 3 + 0 + 0 - 1);
        due("36 other calls leave it", x.fault(), 2);
        due("34 OUTSIDE", x.as(0, 3), OUTSIDE);
        due("36 refused", x.fault(), 0);
        due("34 OUTSIDE", x.as(0, -1), OUTSIDE);
        x.as(0, 2);
        due("34 UNKNOWN", x.as(3, 3), UNKNOWN);
        due("36 refused", x.fault(), 0);
        x.as(0, 1);
        due("36 sheet names one", x.sheet(0, 0, 1), 1);
        due("36 none", x.fault(), 0);
        x.as(0, 1);
        due("36 put names one", x.put(0, 0, 1), 1);
        due("36 none", x.fault(), 0);
        x.as(0, 1);
        due("36 copy names one", x.copy(0, 0, 0, 0, 1), 1);
        due("36 none", x.fault(), 0);
        x.as(0, 1);
        due("36 order names one", x.order(0, 0, 0, 1, 0), 0);
        due("36 none", x.fault(), 0);
        x.as(0, 1);
        due("36 seen names one", x.seen(0, 0, 0, 0, 0, 0), 1000);
        due("36 none", x.fault(), 0);
    }

    private static void howMany() {
        BarFigures x = with("p42;f005000;m127000");
        x.go(7);
        x.reading(0, 0, 0);
        due("37 places", x.many(0), 2);
        due("37 life", x.many(1), 42);
        due("37 shown", x.many(2), 7);
        due("37 dead", x.many(3), 9);
        due("37 readings", x.many(4), 1);
        due("37 OUTSIDE", x.many(5), OUTSIDE);
        due("37 OUTSIDE", x.many(-1), OUTSIDE);
    }

    public static void main(String[] args) {
        newObject();
        panelTexts();
        panelAnew();
        panelRefusals();
        ofPlaces();
        wearOfBars();
        killAndJam();
        burning();
        numbers();
        countingUp();
        nearest();
        steps();
        deathsFarAhead();
        seenRows();
        seenNoneAboveLast();
        repairs();
        orders();
        readingsBackAndForth();
        deadsByReadings();
        kindsByReadings();
        oddsOfNumbers();
        sheets();
        cells();
        copies();
        bodies();
        casts();
        howMany();
        System.out.println(wrong == 0 ? "all answers are as due" : wrong + " answers are not as due");
        if (wrong != 0) {
            System.exit(1);
        }
    }
}
