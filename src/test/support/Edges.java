import java.util.ArrayList;
import java.util.List;

/**
 * What the tests of boundary cases share: scenes, all that can be seen of an object, and the check that a
 * call leaves all of it as it was.
 */
final class Edges {
    static final int UNKNOWN = -1, OUTSIDE = -2, STATE = -3, FULL = -4, NONE = -9;
    static final int NULL = -11, CAST = -12, INDEX = -13, SIZE = -14;
    static final long LOST = Long.MIN_VALUE;
    static final int LEAST = Integer.MIN_VALUE, MOST = Integer.MAX_VALUE;
    /** What fault() says behind a call that names no FAULTS: what it said ahead of it. */
    static final int KEPT = -1;

    interface Call {
        long on(BarFigures x);
    }

    interface Scene {
        BarFigures make();
    }

    private static int wrong = 0;
    private static int checked = 0;

    private Edges() {
    }

    static void due(String sentence, long got, long want) {
        checked++;
        if (got != want) {
            wrong++;
            System.out.println(sentence + ": answered " + got + ", due is " + want);
        }
    }

    static void end() {
        System.out.println(checked + " checks: " + (wrong == 0 ? "all answers are as due" : wrong + " are not as due"));
        if (wrong != 0) {
            System.exit(1);
        }
    }

    static void row(BarFigures x, int sheet, int lane, int... cells) {
        x.sheet(sheet, lane, cells.length);
        for (int i = 0; i < cells.length; i++) {
            x.put(sheet, i, cells[i]);
        }
    }

    /** Tells a text by SHEET 3, which has nothing behind it. */
    static int panelBy(BarFigures x, String text) {
        row(x, 3, 2, text.chars().toArray());
        int answer = x.panel(3, 2, 0, text.length());
        x.lose(3);
        return answer;
    }

    static BarFigures with(String text) {
        BarFigures x = new BarFigures();
        due(text + " is taken", panelBy(x, text), (text.length() - 3) / 8);
        return x;
    }

    /** A LIFE of 99 and some FAIR PLACES, all bars whole. */
    static String fair(int places) {
        return "p99" + ";f000000".repeat(places);
    }

    /**
     * No PANEL. SHEET 0: bytes, a TEXT of one PLACE; 1: shorts, five sets and a number that is none; 2: ints,
     * of which with three PLACES the second one alone is a NUMBER; 3: nothing.
     */
    static BarFigures bare() {
        BarFigures x = new BarFigures();
        row(x, 0, 0, "p05;f000000".chars().toArray());
        row(x, 1, 1, 63, 6, 91, 79, 0, 128);
        row(x, 2, 2, 1000, 13, -1);
        return x;
    }

    /** The rows of bare, a PANEL of each kind with worn, DEAD and STUCK bars, three READINGS, a TRACE. */
    static BarFigures worn() {
        BarFigures x = bare();
        panelBy(x, "p20;f002000;m000064;t008000");
        x.go(113);
        x.kill(0, 10);
        x.jam(1, 65);
        x.reading(0, 8, x.burns(0, 8));
        x.reading(1, 3, x.burns(1, 3));
        x.reading(2, 0, x.burns(2, 0));
        x.tell(2);
        x.hum(0);
        return x;
    }

    /** The scene worn with as many READINGS as there can be. */
    static BarFigures full() {
        BarFigures x = worn();
        for (int r = 3; r < 8; r++) {
            x.reading(r % 3, r, x.burns(r % 3, r));
        }
        return x;
    }

    /**
     * A call that is refused or just asks: what it answers, what fault() says behind it, and that nothing else
     * is unlike an object on which it was not called. With two faults ahead, as one could be there by chance.
     */
    static void leavesAll(String sentence, Scene scene, Call call, long answer, int faultBehind) {
        for (int ahead : new int[] {1, 4}) {
            BarFigures called = scene.make();
            BarFigures twin = scene.make();
            leaveFault(called, ahead);
            leaveFault(twin, ahead);
            due(sentence, call.on(called), answer);
            due(sentence + ", then fault()", called.fault(), faultBehind == KEPT ? ahead : faultBehind);
            same(sentence + ", changes nothing", look(called), look(twin));
        }
    }

    private static void leaveFault(BarFigures x, int fault) {
        if (fault == 1) {
            x.put(3, 0, 0);
        } else {
            x.sheet(0, 0, -1);
        }
        due("the fault ahead", x.fault(), fault);
    }

    static void same(String sentence, List<String> got, List<String> want) {
        checked++;
        if (!got.equals(want)) {
            wrong++;
            List<String> unlike = new ArrayList<>(got);
            unlike.removeAll(want);
            System.out.println(sentence + ": not so: " + unlike);
        }
    }

    /** All that can be seen of an object; takes its READINGS back and changes its fault(). */
    static List<String> look(BarFigures x) {
        List<String> seen = new ArrayList<>();
        seen.add("trace() " + x.trace());
        for (int what = 0; what < 5; what++) {
            seen.add("many(" + what + ") " + x.many(what));
        }
        for (int k = 0; k < 4; k++) {
            lookAtSheet(x, k, seen);
        }
        int places = x.many(0);
        for (int k = 0; k < places; k++) {
            lookAtPlace(x, k, seen);
        }
        for (int left = x.many(4); left >= 0; left--) {
            for (int k = 0; k < places; k++) {
                seen.add(left + " kinds(" + k + ") " + x.kinds(k));
                for (int what = 0; what < 4; what++) {
                    seen.add(left + " deads(" + k + ", " + what + ") " + x.deads(k, what));
                }
            }
            x.back(left > 0 ? 1 : 0);
        }
        return seen;
    }

    private static void lookAtSheet(BarFigures x, int k, List<String> seen) {
        for (int lane = 0; lane < 3; lane++) {
            long cell = x.cell(k, 0, lane);
            seen.add("cell(" + k + ", 0, " + lane + ") " + cell + " by fault " + x.fault());
            for (int i = 1; cell != LOST; i++) {
                cell = x.cell(k, i, lane);
                seen.add("cell(" + k + ", " + i + ", " + lane + ") " + cell);
            }
        }
    }

    private static void lookAtPlace(BarFigures x, int k, List<String> seen) {
        for (int what = 0; what < 5; what++) {
            seen.add("ofPlace(" + k + ", " + what + ") " + x.ofPlace(k, what));
        }
        for (int bar = 0; bar < 7; bar++) {
            seen.add("wear(" + k + ", " + bar + ") " + x.wear(k, bar));
        }
        for (int digit = 0; digit < 10; digit++) {
            seen.add("burns(" + k + ", " + digit + ") " + x.burns(k, digit));
        }
    }
}
