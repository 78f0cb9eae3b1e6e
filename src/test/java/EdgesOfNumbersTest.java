/** Boundary cases of promises 9 to 15: numbers, their pictures and flips. */
public final class EdgesOfNumbersTest {
    private static final int OUTSIDE = Edges.OUTSIDE, STATE = Edges.STATE, NONE = Edges.NONE;
    private static final int LEAST = Edges.LEAST, MOST = Edges.MOST, KEPT = Edges.KEPT;
    /** How many bars the FIGURES have. */
    private static final int[] LIT = {6, 2, 5, 5, 4, 5, 6, 3, 7, 6};

    private static void due(String sentence, long got, long want) {
        Edges.due(sentence, got, want);
    }

    private static void refused(String sentence, Edges.Call call, long answer) {
        Edges.leavesAll(sentence, Edges::worn, call, answer, KEPT);
    }

    private static void noPanel(String sentence, Edges.Call call) {
        Edges.leavesAll(sentence, Edges::bare, call, STATE, KEPT);
    }

    /** LAST for one to four PLACES: the greatest NUMBER is taken, the next one is refused. */
    private static void lastOfEachPanel() {
        int last = 0;
        for (int places = 1; places <= 4; places++) {
            last = 10 * last + 9;
            BarFigures x = Edges.with(Edges.fair(places));
            String by = " with PLACES: " + places;
            due("9 LAST" + by, x.bars(last), 6 * places);
            due("9 0, as 0s ahead BURN, too" + by, x.bars(0), 6 * places);
            due("9 an 8 behind 0s" + by, x.bars(8), 6 * places + 1);
            due("10 LAST" + by, x.alike(last), 1);
            due("11 LAST" + by, x.which(last, 0), last);
            due("12 LAST" + by, x.flips(last, 0), 2 * places);
            due("12 LAST" + by, x.flips(0, last), 2 * places);
            due("13 LAST" + by, x.counting(last, last, 1), 0);
            due("13 the step to LAST" + by, x.counting(last - 1, last, 1), 1);
            due("14 LAST" + by, x.near(last, 0), 1);
            int next = last + 1;
            Edges.Call[] beyond = {y -> y.bars(next), y -> y.alike(next), y -> y.which(next, 0), y -> y.flips(next, 0),
                y -> y.flips(0, next), y -> y.counting(0, next, 0), y -> y.counting(next, next, 0), y -> y.near(next, 0)};
            for (int c = 0; c < beyond.length; c++) {
                due("behind LAST, call " + c + by, beyond[c].on(x), OUTSIDE);
            }
            due("2 NUMBERS that are shown", x.go(1), 0);
            due("2 NUMBERS that are shown", x.many(2), 1);
        }
    }

    private static void barsEdges() {
        for (int v : new int[] {-1, 1000, LEAST, MOST}) {
            refused("9 OUTSIDE " + v, x -> x.bars(v), OUTSIDE);
            noPanel("9 STATE ahead of OUTSIDE " + v, x -> x.bars(v));
        }
        noPanel("9 STATE", x -> x.bars(0));
        BarFigures x = Edges.with("p09;f000000;f127000;m000127");
        for (int digit = 0; digit < 10; digit++) {
            due("9 by a PLACE at which none BURNS and one at which all do", x.bars(101 * digit), LIT[digit] + 7);
        }
        due("9 none BURNS", Edges.with("p09;f127000").bars(8), 0);
        due("9 all BURN", Edges.with("p09;f127127;f000127;t000000;m000000").bars(1188), 28);
    }

    private static void alikeEdges() {
        for (int v : new int[] {-1, 1000, LEAST, MOST}) {
            refused("10 OUTSIDE " + v, x -> x.alike(v), OUTSIDE);
            noPanel("10 STATE ahead of OUTSIDE " + v, x -> x.alike(v));
        }
        noPanel("10 STATE", x -> x.alike(0));
        due("10 it alone", Edges.with(Edges.fair(4)).alike(1234), 1);
        int all = 1;
        for (int places = 1; places <= 4; places++) {
            all *= 10;
            due("10 all NUMBERS", Edges.with("p01" + ";f127000".repeat(places)).alike(all - 1), all);
        }
        // without its top a 7 is a 1; without its middle an 8 is a 0
        due("10 it and one more", Edges.with("p09;f001000;f064000").alike(79), 2);
        due("10 two by two", Edges.with("p09;f001000;f064000").alike(78), 4);
    }

    private static void whichEdges() {
        for (int v : new int[] {-1, 1000, LEAST, MOST}) {
            refused("11 OUTSIDE v " + v, x -> x.which(v, 0), OUTSIDE);
            noPanel("11 STATE ahead of OUTSIDE v " + v, x -> x.which(v, 0));
        }
        for (int i : new int[] {-1, 10000, LEAST, MOST}) {
            refused("11 OUTSIDE i " + i, x -> x.which(0, i), OUTSIDE);
            noPanel("11 STATE ahead of OUTSIDE i " + i, x -> x.which(0, i));
        }
        noPanel("11 STATE", x -> x.which(0, 0));
        refused("11 the greatest i: not so many", x -> x.which(0, 9999), NONE);
        int all = 1;
        for (int places = 1; places <= 4; places++) {
            all *= 10;
            BarFigures x = Edges.with("p01" + ";f000127".repeat(places));
            due("11 the least of all", x.which(all - 1, 0), 0);
            due("11 the greatest of all", x.which(0, all - 1), all - 1);
            due("11 in their order", x.which(5, all / 2), all / 2);
            due("11 one more than all", x.which(0, all), places == 4 ? OUTSIDE : NONE);
            due("11 i 9999", x.which(0, 9999), places == 4 ? 9999 : NONE);
            due("11 i 10000", x.which(0, 10000), OUTSIDE);
        }
        BarFigures x = Edges.with("p09;f001000;f000000;f064000");
        int[] alike = {130, 138, 730, 738};
        for (int of : alike) {
            for (int i = 0; i < 4; i++) {
                due("11 of " + of + " the one behind " + i, x.which(of, i), alike[i]);
            }
            due("11 no fifth", x.which(of, 4), NONE);
        }
    }

    private static void flipsEdges() {
        for (int v : new int[] {-1, 1000, LEAST, MOST}) {
            refused("12 OUTSIDE u " + v, x -> x.flips(v, 0), OUTSIDE);
            refused("12 OUTSIDE v " + v, x -> x.flips(0, v), OUTSIDE);
            noPanel("12 STATE ahead of OUTSIDE u " + v, x -> x.flips(v, 0));
            noPanel("12 STATE ahead of OUTSIDE v " + v, x -> x.flips(0, v));
        }
        noPanel("12 STATE", x -> x.flips(0, 0));
        BarFigures x = Edges.with(Edges.fair(4));
        due("12 of one and itself", x.flips(9999, 9999), 0);
        due("12 at all PLACES", x.flips(1111, 6666), 24);
        due("12 at the first PLACE alone", x.flips(0, 1000), 4);
        due("12 at the last PLACE alone", x.flips(0, 1), 4);
        x.kill(0, 1);
        due("12 a DEAD bar does not flip", x.flips(0, 1000), 3);
        x.jam(0, 1);
        due("12 a STUCK bar does not flip", x.flips(0, 1000), 3);
    }

    private static void countingEdges() {
        for (int v : new int[] {-1, 1000, LEAST, MOST}) {
            refused("13 OUTSIDE u " + v, x -> x.counting(v, 999, 0), OUTSIDE);
            refused("13 OUTSIDE v " + v, x -> x.counting(0, v, 0), OUTSIDE);
            noPanel("13 STATE ahead of OUTSIDE u " + v, x -> x.counting(v, 999, 0));
            noPanel("13 STATE ahead of OUTSIDE v " + v, x -> x.counting(0, v, 0));
        }
        for (int what : new int[] {-1, 3, LEAST, MOST}) {
            refused("13 OUTSIDE what " + what, x -> x.counting(0, 1, what), OUTSIDE);
            refused("13 OUTSIDE what " + what + " of no steps", x -> x.counting(1, 1, what), OUTSIDE);
            noPanel("13 STATE ahead of OUTSIDE what " + what, x -> x.counting(0, 1, what));
        }
        noPanel("13 STATE", x -> x.counting(0, 0, 0));
        for (int asked = 0; asked < 3; asked++) {
            int what = asked;
            refused("13 no steps, what " + what, x -> x.counting(999, 999, what), 0);
            refused("13 no steps, what " + what, x -> x.counting(0, 0, what), 0);
            refused("13 v less than u, what " + what, x -> x.counting(1, 0, what), OUTSIDE);
            refused("13 v less than u, what " + what, x -> x.counting(999, 998, what), OUTSIDE);
        }
        BarFigures fair = Edges.with(Edges.fair(4));
        due("13 all steps, none is STILL", fair.counting(0, 9999, 0), 0);
        // from 0 to 9 a PLACE has 28 flips, from 9 to 0 two: 1000 rounds of the last one, 100, 10, 1
        due("13 all steps, together", fair.counting(0, 9999, 1), 29998 + 2998 + 298 + 28);
        // three PLACES from 9 to 0 and the first from 1 to 2
        due("13 all steps, the most", fair.counting(0, 9999, 2), 3 * 2 + 5);
        due("13 counting wears nothing", fair.wear(3, 4), 0);
        due("13 counting shows nothing", fair.many(2), 0);
        BarFigures still = Edges.with("p01;f127000;f127000;f127000;f127000");
        due("13 all steps are STILL", still.counting(0, 9999, 0), 9999);
        due("13 all steps are STILL", still.counting(0, 9999, 1), 0);
        due("13 all steps are STILL", still.counting(0, 9999, 2), 0);
        BarFigures tens = Edges.with("p09;f000000;f127000");
        due("13 STILL up to the step over ten", tens.counting(0, 9, 0), 9);
        due("13 the step over ten", tens.counting(9, 10, 0), 0);
        due("13 the step over ten", tens.counting(9, 10, 2), 4);
        due("13 the last step", tens.counting(98, 99, 0), 1);
    }

    private static void nearEdges() {
        for (int v : new int[] {-1, 1000, LEAST, MOST}) {
            refused("14 OUTSIDE v " + v, x -> x.near(v, 0), OUTSIDE);
            noPanel("14 STATE ahead of OUTSIDE v " + v, x -> x.near(v, 0));
        }
        for (int what : new int[] {-1, 2, LEAST, MOST}) {
            refused("14 OUTSIDE what " + what, x -> x.near(0, what), OUTSIDE);
            noPanel("14 STATE ahead of OUTSIDE what " + what, x -> x.near(0, what));
        }
        noPanel("14 STATE", x -> x.near(0, 0));
        // the nearest of each digit: 0 8 by one, 1 7, 2 is two from 3 and 8, 3 9, 4 is two from 1 and 9, 5 6, 6 5, 7 1, 8 0, 9 3
        int[] nearest = {8, 7, 3, 9, 1, 6, 5, 1, 0, 3};
        int[] flips = {1, 1, 2, 1, 2, 1, 1, 1, 1, 1};
        BarFigures one = Edges.with(Edges.fair(1));
        BarFigures two = Edges.with(Edges.fair(2));
        for (int digit = 0; digit < 10; digit++) {
            due("14 of several the least, to " + digit, one.near(digit, 1), nearest[digit]);
            due("14 the fewest FLIPS, to " + digit, one.near(digit, 0), flips[digit]);
            // of both PLACES the higher one is changed if that makes less, the lower one if the higher would make more
            int twice = 11 * digit;
            int high = twice + 10 * (nearest[digit] - digit);
            int low = twice + nearest[digit] - digit;
            due("14 of several the least, to " + twice, two.near(twice, 1), Math.min(high, low));
        }
        BarFigures alike = Edges.with("p09;f127000");
        due("14 it is other than v: 0", alike.near(0, 1), 1);
        due("14 it is other than v: 9", alike.near(9, 1), 0);
        due("14 no FLIPS", alike.near(9, 0), 0);
        BarFigures far = Edges.with("p09;f001000;f000000;f000000;f000000");
        due("14 a like one above", far.near(1999, 1), 7999);
        due("14 a like one below", far.near(7999, 1), 1999);
        due("14 a like one", far.near(7999, 0), 0);
        due("14 none is alike", far.near(9999, 0), 1);
    }

    /** All digits are 2, which is two FLIPS from the next, but one, which is one from it: that one is changed. */
    private static void nearByEachPlace() {
        int[] nearest = {8, 7, -1, 9, -1, 6, 5, 1, 0, 3};
        int twos = 2;
        for (int places = 2; places <= 4; places++) {
            twos = 10 * twos + 2;
            BarFigures x = Edges.with(Edges.fair(places));
            for (int k = 0, weight = 1; k < places; k++, weight *= 10) {
                for (int digit = 0; digit < 10; digit++) {
                    if (nearest[digit] >= 0) {
                        int v = twos + weight * (digit - 2);
                        due("14 the fewest FLIPS, to " + v, x.near(v, 0), 1);
                        due("14 the NUMBER nearest to " + v, x.near(v, 1), v + weight * (nearest[digit] - digit));
                    }
                }
            }
        }
        BarFigures four = Edges.with(Edges.fair(4));
        due("14 of several the least: by the highest digit", four.near(9999, 1), 3999);
        due("14 of several the least: by the lowest digit", four.near(1111, 1), 1117);
        due("14 of several the least: by the lowest digit", four.near(2222, 1), 2223);
    }

    private static void picturesEdges() {
        noPanel("15 STATE", x -> x.pictures());
        int all = 1;
        for (int places = 1; places <= 4; places++) {
            all *= 10;
            due("15 all are unlike", Edges.with(Edges.fair(places)).pictures(), all);
            due("15 all are alike", Edges.with("p09" + ";f000127".repeat(places)).pictures(), 1);
            due("15 none BURNS: one picture", Edges.with("p09" + ";f127000".repeat(places)).pictures(), 1);
        }
        due("15 each PLACE by itself", Edges.with("p09;f001000;f064000;f127000;f000000").pictures(), 9 * 9 * 10);
        // just the middle is left: it burns or not
        due("15 two", Edges.with("p09;f063000").pictures(), 2);
    }

    public static void main(String[] args) {
        lastOfEachPanel();
        barsEdges();
        alikeEdges();
        whichEdges();
        flipsEdges();
        countingEdges();
        nearEdges();
        nearByEachPlace();
        picturesEdges();
        Edges.end();
    }
}
