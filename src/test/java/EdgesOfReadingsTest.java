/** Boundary cases of promises 22 to 26: readings, what they leave, odds. */
public final class EdgesOfReadingsTest {
    private static final int UNKNOWN = Edges.UNKNOWN, OUTSIDE = Edges.OUTSIDE, FULL = Edges.FULL, NONE = Edges.NONE;
    private static final int LEAST = Edges.LEAST, MOST = Edges.MOST, KEPT = Edges.KEPT;
    private static final long LOST = Edges.LOST;

    private static void due(String sentence, long got, long want) {
        Edges.due(sentence, got, want);
    }

    private static void refused(String sentence, Edges.Call call, long answer) {
        Edges.leavesAll(sentence, Edges::worn, call, answer, KEPT);
    }

    private static void refusedFull(String sentence, Edges.Call call, long answer) {
        Edges.leavesAll(sentence, Edges::full, call, answer, KEPT);
    }

    private static void noPanel(String sentence, Edges.Call call, long answer) {
        Edges.leavesAll(sentence, Edges::bare, call, answer, KEPT);
    }

    private static void readingRefusals() {
        for (int k : new int[] {-1, 3, LEAST, MOST}) {
            refused("22 no PLACE " + k, x -> x.reading(k, 0, 0), UNKNOWN);
            refusedFull("22 UNKNOWN ahead of FULL " + k, x -> x.reading(k, 0, 0), UNKNOWN);
        }
        for (int digit : new int[] {-1, 10, LEAST, MOST}) {
            refused("22 OUTSIDE digit " + digit, x -> x.reading(0, digit, 0), OUTSIDE);
            refused("22 UNKNOWN ahead of OUTSIDE digit " + digit, x -> x.reading(3, digit, 0), UNKNOWN);
            refusedFull("22 OUTSIDE digit ahead of FULL " + digit, x -> x.reading(0, digit, 0), OUTSIDE);
        }
        for (int set : new int[] {-1, 128, LEAST, MOST}) {
            refused("22 OUTSIDE set " + set, x -> x.reading(0, 0, set), OUTSIDE);
            refused("22 UNKNOWN ahead of OUTSIDE set " + set, x -> x.reading(3, 0, set), UNKNOWN);
            refusedFull("22 OUTSIDE set ahead of FULL " + set, x -> x.reading(0, 0, set), OUTSIDE);
        }
        refusedFull("22 FULL", x -> x.reading(0, 0, 0), FULL);
        refusedFull("22 FULL, of the greatest, too", x -> x.reading(2, 9, 127), FULL);
        noPanel("22 no PLACES", x -> x.reading(0, 0, 0), UNKNOWN);
    }

    private static void readingNumbers() {
        BarFigures x = Edges.with(Edges.fair(4));
        for (int r = 0; r < 8; r++) {
            due("22 its number is how many there are ahead of it", x.reading(r % 4, 9, 127), r);
            due("22 one more", x.many(4), r + 1);
        }
        due("22 a ninth: FULL", x.reading(0, 9, 127), FULL);
        due("22 8 at most", x.many(4), 8);
        due("23 one is taken back", x.back(1), 7);
        due("22 its number again", x.reading(0, 0, 0), 7);
        due("22 a ninth: FULL", x.reading(0, 0, 0), FULL);
        due("23 all are taken back", x.back(8), 0);
        due("22 the least of all: its number", x.reading(0, 0, 0), 0);
        due("22 the greatest of all: its number", x.reading(3, 9, 127), 1);
    }

    private static void backEdges() {
        for (int k : new int[] {-1, 4, LEAST, MOST}) {
            refused("23 OUTSIDE " + k, x -> x.back(k), OUTSIDE);
        }
        for (int k : new int[] {-1, 9, LEAST, MOST}) {
            refusedFull("23 OUTSIDE of eight " + k, x -> x.back(k), OUTSIDE);
        }
        for (int k : new int[] {-1, 1, LEAST, MOST}) {
            noPanel("23 OUTSIDE of none " + k, x -> x.back(k), OUTSIDE);
        }
        refused("23 none of them", x -> x.back(0), 3);
        refusedFull("23 none of eight", x -> x.back(0), 8);
        noPanel("23 none of none", x -> x.back(0), 0);
        due("23 all of them", Edges.worn().back(3), 0);
        due("23 all of eight", Edges.full().back(8), 0);
        due("23 all but one of eight", Edges.full().back(7), 1);
        BarFigures x = Edges.with(Edges.fair(1));
        x.reading(0, 1, 2);
        x.reading(0, 1, 4);
        due("23 both cannot be so", x.deads(0, 0), 0);
        due("23 the last is taken back", x.back(1), 1);
        due("23 the first is left: bar 2 is DEAD", x.deads(0, 1), 4);
    }

    private static void dueDeads(String sentence, BarFigures x, int k, int many, int inAll, int inAny, int least) {
        int[] want = {many, inAll, inAny, least};
        for (int what = 0; what < 4; what++) {
            due("24 " + sentence + ", what " + what, x.deads(k, what), want[what]);
        }
    }

    private static void deadsEdges() {
        for (int k : new int[] {-1, 3, LEAST, MOST}) {
            refused("24 no PLACE " + k, x -> x.deads(k, 0), UNKNOWN);
        }
        for (int what : new int[] {-1, 4, LEAST, MOST}) {
            refused("24 OUTSIDE " + what, x -> x.deads(0, what), OUTSIDE);
            refused("24 UNKNOWN ahead of OUTSIDE " + what, x -> x.deads(3, what), UNKNOWN);
            noPanel("24 no PLACES " + what, x -> x.deads(0, what), UNKNOWN);
        }
        BarFigures x = Edges.with("p09;f003000;f000000");
        dueDeads("no READINGS: all sets, whatever is DEAD", x, 0, 128, 0, 127, 0);
        x.reading(0, 8, 127);
        dueDeads("just the least set", x, 0, 1, 0, 0, 0);
        dueDeads("it is not so at another PLACE: none", x, 1, 0, NONE, NONE, NONE);
        x.back(1);
        x.reading(0, 8, 0);
        dueDeads("just the greatest set", x, 0, 1, 127, 127, 127);
        x.back(1);
        x.reading(0, 1, 4);
        dueDeads("bar 1 is DEAD, bar 2 is not", x, 0, 32, 2, 127 - 4, 2);
        dueDeads("and so it is: the other PLACE has all sets", x, 1, 128, 0, 127, 0);
        x.reading(0, 1, 6);
        dueDeads("both are not so", x, 0, 0, NONE, NONE, NONE);
        x.back(2);
        x.reading(0, 1, 8 | 6);
        dueDeads("a bar that is not of the LOOK", x, 0, 0, NONE, NONE, NONE);
        x.jam(0, 8);
        dueDeads("it is STUCK", x, 0, 32, 0, 127 - 6, 0);
        x.jam(0, 9);
        dueDeads("a STUCK bar that did not BURN", x, 0, 0, NONE, NONE, NONE);
        x = Edges.with("p09;f000127");
        x.reading(0, 0, 127);
        dueDeads("all STUCK: all sets", x, 0, 128, 0, 127, 0);
        x.reading(0, 0, 126);
        dueDeads("all STUCK, one did not BURN", x, 0, 0, NONE, NONE, NONE);
        Edges.leavesAll("24 DEAD is as it was", Edges::full, y -> y.deads(0, 0) > 0 ? 1 : 0, 1, KEPT);
    }

    private static void kindsEdges() {
        for (int k : new int[] {-1, 3, LEAST, MOST}) {
            refused("25 no PLACE " + k, x -> x.kinds(k), UNKNOWN);
        }
        noPanel("25 no PLACES", x -> x.kinds(0), UNKNOWN);
        BarFigures x = Edges.with("p09;f000000;m000000;t000000");
        for (int k = 0; k < 3; k++) {
            due("25 no READINGS: all kinds", x.kinds(k), 7);
        }
        x.reading(0, 1, 6);
        due("25 FAIR alone", x.kinds(0), 1);
        x.back(1);
        x.reading(1, 2, 109);
        due("25 MIRRORED alone", x.kinds(1), 2);
        x.back(1);
        x.reading(2, 4, 116);
        due("25 TURNED alone", x.kinds(2), 4);
        due("25 so it is: the others may be any", x.kinds(0), 7);
        x.reading(2, 4, 102);
        due("25 both are not so", x.kinds(2), 0);
        due("25 not so at another PLACE", x.kinds(0), 0);
        x.back(2);
        x.reading(1, 1, 48);
        due("25 all but FAIR", x.kinds(1), 6);
        x.kill(1, 16);
        due("25 by the DEAD bars as they are", x.kinds(1), 0);
        x.jam(1, 16);
        due("25 by the STUCK bars as they are", x.kinds(1), 6);
        due("25 the kind is as it was", x.ofPlace(1, 0), 1);
        refusedFull("25 asking changes nothing", y -> y.kinds(2) & 4, 4);
    }

    private static void dueOdds(String sentence, BarFigures x, int upper, int lower) {
        due("26 " + sentence + ", upper", x.odds(0), upper);
        due("26 " + sentence + ", lower", x.odds(1), lower);
    }

    private static void oddsEdges() {
        for (int which : new int[] {-1, 2, LEAST, MOST}) {
            refused("26 OUTSIDE " + which, x -> x.odds(which), LOST);
            noPanel("26 OUTSIDE and no PANEL " + which, x -> x.odds(which), LOST);
        }
        noPanel("26 STATE", x -> x.odds(0), LOST);
        noPanel("26 STATE", x -> x.odds(1), LOST);
        for (int places = 1; places <= 4; places++) {
            dueOdds("all are alone", Edges.with(Edges.fair(places)), 1, 1);
            dueOdds("none is alone", Edges.with("p09" + ";f127000".repeat(places)), 0, 1);
        }
        dueOdds("none is alone by one PLACE", Edges.with("p09;f000000;f000127;f000000"), 0, 1);
        // without its top a 7 is a 1: eight digits are alone
        dueOdds("8 of 10", Edges.with("p09;f001000"), 4, 5);
        dueOdds("64 of 100", Edges.with("p09;f001000;f001000"), 16, 25);
        dueOdds("512 of 1000", Edges.with("p09;f001000;f001000;f001000"), 64, 125);
        dueOdds("4096 of 10000", Edges.with("p09;f001000;f001000;f001000;f001000"), 256, 625);
        // without bar 4 a 6 is a 5 and an 8 a 9; without bar 0, too, a 7 is a 1
        dueOdds("6 of 10", Edges.with("p09;f016000"), 3, 5);
        dueOdds("4 of 10", Edges.with("p09;f017000"), 2, 5);
        // without bars 0, 1, 5: 1 is 7, 3 and 5 are 9, 6 is 8; 0, 2, 4 are alone
        dueOdds("3 of 10, least terms as it is", Edges.with("p09;f035000"), 3, 10);
        dueOdds("9 of 100", Edges.with("p09;f035000;f035000"), 9, 100);
        BarFigures x = Edges.with("p01;f000000");
        x.go(500);
        dueOdds("by the bars as they are: all are DEAD", x, 0, 1);
    }

    public static void main(String[] args) {
        readingRefusals();
        readingNumbers();
        backEdges();
        deadsEdges();
        kindsEdges();
        oddsEdges();
        Edges.end();
    }
}
