import java.util.ArrayList;
import java.util.Arrays;
import java.util.HashMap;
import java.util.HashSet;
import java.util.List;
import java.util.Map;
import java.util.Random;
import java.util.Set;
import java.util.TreeSet;

/**
 * Long runs of chance calls (always the same ones), each answer compared with that of a slow model
 * that goes through all NUMBERS, orders and sets as the document tells them.
 */
public final class ModelTest {
    private static final int UNKNOWN = -1, OUTSIDE = -2, STATE = -3, FULL = -4, NONE = -9;
    private static final int NULL = 1, CAST = 2, INDEX = 3, SIZE = 4;
    private static final long LOST = Long.MIN_VALUE;
    private static final String[] FIGURES = {
        "012345", "12", "01346", "01236", "1256", "02356", "023456", "012", "0123456", "012356"};

    /** A place with its bars as truth values. */
    private static final class Spot {
        int kind;
        boolean[] dead = new boolean[7];
        boolean[] stuck = new boolean[7];
        int[] wear = new int[7];

        Spot twin() {
            Spot t = new Spot();
            t.kind = kind;
            t.dead = dead.clone();
            t.stuck = stuck.clone();
            t.wear = wear.clone();
            return t;
        }

        String burning(int digit) {
            StringBuilder b = new StringBuilder();
            for (int bar = 0; bar < 7; bar++) {
                int drawn = bar;
                if (kind == 2) {
                    drawn = new int[] {3, 2, 1, 0, 5, 4, 6}[drawn];
                }
                if (kind >= 1) {
                    drawn = new int[] {0, 5, 4, 3, 2, 1, 6}[drawn];
                }
                boolean inLook = FIGURES[digit].indexOf('0' + drawn) >= 0;
                if (inLook && !dead[bar] || stuck[bar]) {
                    b.append(bar);
                }
            }
            return b.toString();
        }
    }

    private static final class Reading {
        int place;
        int digit;
        int set;
    }

    private static final class Model {
        Object[] rows = new Object[4];
        List<Spot> spots = new ArrayList<>();
        int life;
        int shown;
        int trace;
        int fault;
        List<Reading> readings = new ArrayList<>();

        static int bits(String bars) {
            int set = 0;
            for (char c : bars.toCharArray()) {
                set |= 1 << (c - '0');
            }
            return set;
        }

        static int bits(boolean[] bars) {
            int set = 0;
            for (int bar = 0; bar < 7; bar++) {
                set |= bars[bar] ? 1 << bar : 0;
            }
            return set;
        }

        static void become(boolean[] bars, int set) {
            for (int bar = 0; bar < 7; bar++) {
                bars[bar] = (set & 1 << bar) != 0;
            }
        }

        int numbers() {
            return (int) Math.pow(10, spots.size());
        }

        String written(int v) {
            return String.format("%0" + spots.size() + "d", v);
        }

        String picture(int v) {
            StringBuilder b = new StringBuilder();
            String w = written(v);
            for (int k = 0; k < spots.size(); k++) {
                b.append(spots.get(k).burning(w.charAt(k) - '0')).append('|');
            }
            return b.toString();
        }

        Map<Integer, String> all() {
            Map<Integer, String> pictures = new HashMap<>();
            for (int v = 0; v < numbers(); v++) {
                pictures.put(v, picture(v));
            }
            return pictures;
        }

        static int apart(String a, String b) {
            Set<String> one = marked(a);
            Set<String> two = marked(b);
            int many = 0;
            for (String m : one) {
                many += two.contains(m) ? 0 : 1;
            }
            for (String m : two) {
                many += one.contains(m) ? 0 : 1;
            }
            return many;
        }

        static Set<String> marked(String picture) {
            Set<String> marks = new HashSet<>();
            int k = 0;
            for (char c : picture.toCharArray()) {
                if (c == '|') {
                    k++;
                } else {
                    marks.add(k + "/" + c);
                }
            }
            return marks;
        }

        boolean isNumber(int v) {
            return v >= 0 && v < numbers();
        }

        boolean isPlace(int k) {
            return k >= 0 && k < spots.size();
        }

        static int lane(Object row) {
            return row instanceof byte[] ? 0 : row instanceof short[] ? 1 : 2;
        }

        static int size(Object row) {
            return java.lang.reflect.Array.getLength(row);
        }

        static int cell(Object row, int i) {
            return java.lang.reflect.Array.getInt(row, i);
        }

        static Object rowOf(int lane, int n) {
            return lane == 0 ? new byte[n] : lane == 1 ? new short[n] : (Object) new int[n];
        }

        int fail(int which) {
            fault = which;
            return -10 - which;
        }

        static final String TEXT = "p(0[1-9]|[1-9][0-9])(;[fmt](0[0-9][0-9]|1[01][0-9]|12[0-7]){2}){1,4}";

        /** Whether a text can go on to a whole one: tried by padding with each whole text's rest. */
        static boolean canGoOn(String begun) {
            for (String rest : rests(begun.length())) {
                if ((begun + rest).matches(TEXT)) {
                    return true;
                }
            }
            return false;
        }

        static List<String> rests(int from) {
            List<String> rests = new ArrayList<>();
            for (int places = 1; places <= 4; places++) {
                for (String life : new String[] {"01", "10"}) {
                    String whole = "p" + life;
                    for (int k = 0; k < places; k++) {
                        whole += ";f000000";
                    }
                    if (from <= whole.length()) {
                        rests.add(whole.substring(from));
                    }
                }
            }
            return rests;
        }

        long panel(int sheet, int lane, int i, int n) {
            fault = 0;
            if (sheet < 0 || sheet > 3) return UNKNOWN;
            if (lane < 0 || lane > 2) return OUTSIDE;
            Object row = rows[sheet];
            if (row != null && lane(row) != lane) return fail(CAST);
            if (row == null) return fail(NULL);
            if (n < 0) return fail(SIZE);
            if (i < 0 || i > size(row) || (long) i + n > size(row)) return fail(INDEX);
            StringBuilder text = new StringBuilder();
            for (int at = 0; at < n; at++) {
                int c = cell(row, i + at);
                text.append(c >= 32 && c < 127 ? (char) c : '?');
                if (!canGoOn(text.toString())) return -100 - at;
            }
            if (!text.toString().matches(TEXT)) return -100 - n;
            spots = new ArrayList<>();
            String[] parts = text.toString().split(";");
            life = Integer.parseInt(parts[0].substring(1));
            for (int k = 1; k < parts.length; k++) {
                Spot s = new Spot();
                s.kind = "fmt".indexOf(parts[k].charAt(0));
                become(s.dead, Integer.parseInt(parts[k].substring(1, 4)));
                become(s.stuck, Integer.parseInt(parts[k].substring(4)));
                spots.add(s);
            }
            shown = 0;
            readings.clear();
            return spots.size();
        }

        long ofPlace(int k, int what) {
            if (!isPlace(k)) return UNKNOWN;
            if (what < 0 || what > 4) return OUTSIDE;
            Spot s = spots.get(k);
            if (what == 0) return s.kind;
            if (what == 1) return bits(s.dead);
            if (what == 2) return bits(s.stuck);
            if (what == 4) return bits(s.burning(written(shown).charAt(k) - '0'));
            return unlike(s);
        }

        static int unlike(Spot s) {
            Set<String> sets = new HashSet<>();
            for (int d = 0; d < 10; d++) {
                sets.add(s.burning(d));
            }
            return sets.size();
        }

        long wear(int k, int bar) {
            return isPlace(k) && bar >= 0 && bar <= 6 ? spots.get(k).wear[bar] : UNKNOWN;
        }

        long kill(int k, int set) {
            if (!isPlace(k)) return UNKNOWN;
            if (set < 0 || set > 127) return OUTSIDE;
            Spot s = spots.get(k);
            boolean[] was = s.dead.clone();
            become(s.dead, set);
            for (int bar = 0; bar < 7; bar++) {
                if (was[bar] && !s.dead[bar]) s.wear[bar] = 0;
            }
            return bits(was);
        }

        long jam(int k, int set) {
            if (!isPlace(k)) return UNKNOWN;
            if (set < 0 || set > 127) return OUTSIDE;
            int was = bits(spots.get(k).stuck);
            become(spots.get(k).stuck, set);
            return was;
        }

        long burns(int k, int digit) {
            if (!isPlace(k)) return UNKNOWN;
            if (digit < 0 || digit > 9) return OUTSIDE;
            return bits(spots.get(k).burning(digit));
        }

        long digits(int k, int set) {
            if (!isPlace(k)) return UNKNOWN;
            if (set < 0 || set > 127) return OUTSIDE;
            int found = 0;
            for (int d = 0; d < 10; d++) {
                if (bits(spots.get(k).burning(d)) == set) found |= 1 << d;
            }
            return found;
        }

        long bars(int v) {
            if (spots.isEmpty()) return STATE;
            if (!isNumber(v)) return OUTSIDE;
            return marked(picture(v)).size();
        }

        List<Integer> alikes(int v) {
            List<Integer> found = new ArrayList<>();
            String p = picture(v);
            for (int u = 0; u < numbers(); u++) {
                if (picture(u).equals(p)) found.add(u);
            }
            return found;
        }

        long alike(int v) {
            if (spots.isEmpty()) return STATE;
            if (!isNumber(v)) return OUTSIDE;
            return alikes(v).size();
        }

        long which(int v, int i) {
            if (spots.isEmpty()) return STATE;
            if (!isNumber(v) || i < 0 || i > 9999) return OUTSIDE;
            List<Integer> found = alikes(v);
            return i < found.size() ? found.get(i) : NONE;
        }

        long flips(int u, int v) {
            if (spots.isEmpty()) return STATE;
            if (!isNumber(u) || !isNumber(v)) return OUTSIDE;
            return apart(picture(u), picture(v));
        }

        long counting(int u, int v, int what) {
            if (spots.isEmpty()) return STATE;
            if (!isNumber(u) || !isNumber(v) || v < u || what < 0 || what > 2) return OUTSIDE;
            int[] found = new int[3];
            for (int x = u; x < v; x++) {
                int now = apart(picture(x), picture(x + 1));
                if (now == 0) found[0]++;
                found[1] += now;
                found[2] = Math.max(found[2], now);
            }
            return found[what];
        }

        long near(int v, int what) {
            if (spots.isEmpty()) return STATE;
            if (!isNumber(v) || what < 0 || what > 1) return OUTSIDE;
            int best = -1;
            int fewest = 1000;
            String p = picture(v);
            for (int u = 0; u < numbers(); u++) {
                if (u != v) {
                    int now = apart(p, picture(u));
                    if (now < fewest) {
                        fewest = now;
                        best = u;
                    }
                }
            }
            return what == 0 ? fewest : best;
        }

        long pictures() {
            return spots.isEmpty() ? STATE : new HashSet<>(all().values()).size();
        }

        void step() {
            Set<String> before = marked(picture(shown));
            shown = (shown + 1) % numbers();
            Set<String> after = marked(picture(shown));
            for (int k = 0; k < spots.size(); k++) {
                for (int bar = 0; bar < 7; bar++) {
                    String mark = k + "/" + bar;
                    if (before.contains(mark) != after.contains(mark)) spots.get(k).wear[bar]++;
                }
            }
            for (Spot s : spots) {
                for (int bar = 0; bar < 7; bar++) {
                    if (s.wear[bar] >= life) s.dead[bar] = true;
                }
            }
        }

        int deadBars() {
            int many = 0;
            for (Spot s : spots) {
                many += Integer.bitCount(bits(s.dead));
            }
            return many;
        }

        long go(int n) {
            if (spots.isEmpty()) return STATE;
            if (n < 1 || n > 500) return OUTSIDE;
            int before = deadBars();
            for (int t = 0; t < n; t++) {
                step();
            }
            return deadBars() - before;
        }

        /** Behind how many steps each bar dies; NONE. The model steps on and is put back. */
        int[][] deaths() {
            List<Spot> kept = spots;
            int keptShown = shown;
            spots = new ArrayList<>();
            for (Spot s : kept) {
                spots.add(s.twin());
            }
            int[][] found = new int[kept.size()][7];
            for (int[] f : found) {
                Arrays.fill(f, NONE);
            }
            for (int t = 1; t <= 1000; t++) {
                step();
                for (int k = 0; k < kept.size(); k++) {
                    for (int bar = 0; bar < 7; bar++) {
                        if (!kept.get(k).dead[bar] && spots.get(k).dead[bar] && found[k][bar] == NONE) {
                            found[k][bar] = t;
                        }
                    }
                }
            }
            spots = kept;
            shown = keptShown;
            return found;
        }

        long dies(int k, int bar) {
            if (!isPlace(k) || bar < 0 || bar > 6) return UNKNOWN;
            return deaths()[k][bar];
        }

        long first(int what) {
            if (what < 0 || what > 2) return OUTSIDE;
            if (spots.isEmpty()) return STATE;
            int[] best = {NONE, NONE, NONE};
            int[][] found = deaths();
            for (int k = 0; k < found.length; k++) {
                for (int bar = 0; bar < 7; bar++) {
                    if (found[k][bar] != NONE && (best[2] == NONE || found[k][bar] < best[2])) {
                        best = new int[] {k, bar, found[k][bar]};
                    }
                }
            }
            return best[what];
        }

        int rowFault(int sheet, int lane, int i, int n) {
            Object row = rows[sheet];
            if (row != null && lane(row) != lane) return CAST;
            if (row == null) return NULL;
            if (i < 0 || i > size(row) || (long) i + n > size(row)) return INDEX;
            return 0;
        }

        long seen(int sheet, int lane, int i, int n, int s, int what) {
            fault = 0;
            if (sheet < 0 || sheet > 3) return UNKNOWN;
            if (lane < 0 || lane > 2 || n < 0 || n > 10 || s < 0 || s > 99 || what < 0 || what > 2) return OUTSIDE;
            if (spots.isEmpty()) return STATE;
            int f = rowFault(sheet, lane, i, n * spots.size());
            if (f != 0) return fail(f);
            String[] told = new String[n];
            for (int r = 0; r < n; r++) {
                told[r] = "";
                for (int k = 0; k < spots.size(); k++) {
                    int set = cell(rows[sheet], i + r * spots.size() + k);
                    if (set < 0 || set > 127) return OUTSIDE;
                    for (int bar = 0; bar < 7; bar++) {
                        told[r] += (set & 1 << bar) != 0 ? "" + bar : "";
                    }
                    told[r] += "|";
                }
            }
            Map<Integer, String> pictures = all();
            TreeSet<Integer> begins = new TreeSet<>();
            for (int u = 0; u < numbers(); u++) {
                boolean fits = true;
                for (int r = 0; r < n; r++) {
                    fits = fits && told[r].equals(pictures.get(u + r * s));
                }
                if (fits) begins.add(u);
            }
            if (what == 0) return begins.size();
            if (begins.isEmpty()) return NONE;
            return what == 1 ? begins.first() : begins.last();
        }

        long repair(int k) {
            if (!isPlace(k)) return UNKNOWN;
            Spot s = spots.get(k);
            for (int many = 0; many <= 7; many++) {
                for (int set = 0; set < 128; set++) {
                    if (Integer.bitCount(set) == many && (set & bits(s.dead)) == set) {
                        Spot t = s.twin();
                        become(t.dead, bits(s.dead) - set);
                        if (unlike(t) == 10) return set;
                    }
                }
            }
            return NONE;
        }

        static void orders(List<Integer> begun, int n, List<List<Integer>> found) {
            if (begun.size() == n) {
                found.add(new ArrayList<>(begun));
                return;
            }
            for (int k = 0; k < n; k++) {
                if (!begun.contains(k)) {
                    begun.add(k);
                    orders(begun, n, found);
                    begun.remove(begun.size() - 1);
                }
            }
        }

        long order(int sheet, int lane, int i, int n, int what) {
            fault = 0;
            if (sheet < 0 || sheet > 3) return UNKNOWN;
            if (lane < 0 || lane > 2 || n < 0 || n > 6 || what != 0 && (what < 10 || what > 15)) return OUTSIDE;
            if (spots.isEmpty()) return STATE;
            int f = rowFault(sheet, lane, i, n);
            if (f != 0) return fail(f);
            int[] told = new int[n];
            for (int k = 0; k < n; k++) {
                told[k] = cell(rows[sheet], i + k);
                if (!isNumber(told[k])) return OUTSIDE;
            }
            int[][] gap = new int[n][n];
            for (int a = 0; a < n; a++) {
                for (int b = 0; b < n; b++) {
                    gap[a][b] = apart(picture(told[a]), picture(told[b]));
                }
            }
            List<List<Integer>> found = new ArrayList<>();
            orders(new ArrayList<>(), n, found);
            int fewest = Integer.MAX_VALUE;
            List<Integer> best = null;
            for (List<Integer> one : found) {
                int sum = 0;
                for (int k = 1; k < n; k++) {
                    sum += gap[one.get(k - 1)][one.get(k)];
                }
                if (sum < fewest) {
                    fewest = sum;
                    best = one;
                }
            }
            if (what == 0) return fewest;
            return what - 10 < n ? best.get(what - 10) : NONE;
        }

        long reading(int k, int digit, int set) {
            if (!isPlace(k)) return UNKNOWN;
            if (digit < 0 || digit > 9 || set < 0 || set > 127) return OUTSIDE;
            if (readings.size() == 8) return FULL;
            Reading r = new Reading();
            r.place = k;
            r.digit = digit;
            r.set = set;
            readings.add(r);
            return readings.size() - 1;
        }

        long back(int k) {
            if (k < 0 || k > readings.size()) return OUTSIDE;
            for (int t = 0; t < k; t++) {
                readings.remove(readings.size() - 1);
            }
            return readings.size();
        }

        boolean allSo() {
            for (Reading r : readings) {
                if (bits(spots.get(r.place).burning(r.digit)) != r.set) return false;
            }
            return true;
        }

        long deads(int k, int what) {
            if (!isPlace(k)) return UNKNOWN;
            if (what < 0 || what > 3) return OUTSIDE;
            Spot own = spots.get(k);
            TreeSet<Integer> found = new TreeSet<>();
            for (int set = 0; set < 128; set++) {
                Spot t = own.twin();
                become(t.dead, set);
                spots.set(k, t);
                if (allSo()) found.add(set);
            }
            spots.set(k, own);
            if (what == 0) return found.size();
            if (found.isEmpty()) return NONE;
            if (what == 3) return found.first();
            int inAll = 127;
            int inAny = 0;
            for (int set : found) {
                inAll &= set;
                inAny |= set;
            }
            return what == 1 ? inAll : inAny;
        }

        long kinds(int k) {
            if (!isPlace(k)) return UNKNOWN;
            int own = spots.get(k).kind;
            int found = 0;
            for (int kind = 0; kind < 3; kind++) {
                spots.get(k).kind = kind;
                if (allSo()) found |= 1 << kind;
            }
            spots.get(k).kind = own;
            return found;
        }

        long odds(int which) {
            if (which < 0 || which > 1 || spots.isEmpty()) return LOST;
            Map<String, Integer> many = new HashMap<>();
            for (String p : all().values()) {
                many.merge(p, 1, Integer::sum);
            }
            int upper = 0;
            for (int m : many.values()) {
                upper += m == 1 ? 1 : 0;
            }
            int lower = numbers();
            for (int d = lower; d > 1; d--) {
                if (upper % d == 0 && lower % d == 0) {
                    upper /= d;
                    lower /= d;
                }
            }
            return which == 0 ? upper : lower;
        }

        long sheet(int k, int lane, int n) {
            fault = 0;
            if (k < 0 || k > 3) return UNKNOWN;
            if (lane < 0 || lane > 2 || n > 60) return OUTSIDE;
            if (n < 0) return fail(SIZE);
            rows[k] = rowOf(lane, n);
            return 1;
        }

        long lose(int k) {
            if (k < 0 || k > 3) return UNKNOWN;
            boolean had = rows[k] != null;
            rows[k] = null;
            return had ? 1 : 0;
        }

        long put(int k, int i, int v) {
            fault = 0;
            if (k < 0 || k > 3) return UNKNOWN;
            if (rows[k] == null) return fail(NULL);
            if (i < 0 || i >= size(rows[k])) return fail(INDEX);
            if (rows[k] instanceof byte[]) ((byte[]) rows[k])[i] = (byte) v;
            if (rows[k] instanceof short[]) ((short[]) rows[k])[i] = (short) v;
            if (rows[k] instanceof int[]) ((int[]) rows[k])[i] = v;
            return 1;
        }

        long cellOf(int k, int i, int lane) {
            fault = 0;
            if (k < 0 || k > 3 || lane < 0 || lane > 2) return LOST;
            fault = rowFault(k, lane, i, 1);
            return fault != 0 ? LOST : cell(rows[k], i);
        }

        long copy(int k, int i, int other, int j, int n) {
            fault = 0;
            if (k < 0 || k > 3 || other < 0 || other > 3) return UNKNOWN;
            if (rows[k] == null || rows[other] == null) return fail(NULL);
            if (lane(rows[k]) != lane(rows[other])) return fail(CAST);
            try {
                System.arraycopy(rows[k], i, rows[other], j, n);
            } catch (IndexOutOfBoundsException beyond) {
                return fail(INDEX);
            }
            return n;
        }

        void leave(int... bodies) {
            for (int b : bodies) {
                trace = trace * 31 + b;
            }
        }

        long tell(int k) {
            if (!isPlace(k)) return UNKNOWN;
            int dead = bits(spots.get(k).dead);
            if (spots.get(k).kind == 0) leave(1);
            if (spots.get(k).kind == 1) leave(2, 1);
            if (spots.get(k).kind == 2) leave(3, 2, 1, 1);
            return spots.get(k).kind == 0 ? dead : spots.get(k).kind == 1 ? dead + 100 : 2 * dead + 100;
        }

        long hum(int k) {
            if (!isPlace(k)) return UNKNOWN;
            leave(spots.get(k).kind == 2 ? 5 : 4);
            return spots.get(k).kind == 2 ? 60 : k;
        }

        long as(int k, int kind) {
            fault = 0;
            if (!isPlace(k)) return UNKNOWN;
            if (kind < 0 || kind > 2) return OUTSIDE;
            return spots.get(k).kind < kind ? fail(CAST) : 1;
        }

        long many(int what) {
            if (what < 0 || what > 4) return OUTSIDE;
            return new int[] {spots.size(), life, shown, deadBars(), readings.size()}[what];
        }
    }

    private static int wrong = 0;
    private static long calls = 0;

    private final Random chance;
    private final BarFigures x = new BarFigures();
    private final Model m = new Model();
    private final int mostPlaces;
    private final StringBuilder told = new StringBuilder();

    private ModelTest(long seed, int mostPlaces) {
        chance = new Random(seed);
        this.mostPlaces = mostPlaces;
    }

    private void same(String call, long got, long want) {
        calls++;
        told.append(call).append(" = ").append(want).append('\n');
        if (got != want) {
            wrong++;
            if (wrong <= 5) {
                System.out.println(told + "but answered " + got);
            }
        }
    }

    /** Mostly low .. high, at times next to it, at times far off. */
    private int about(int low, int high) {
        int dice = chance.nextInt(40);
        if (dice == 0) return Integer.MIN_VALUE + chance.nextInt(3);
        if (dice == 1) return Integer.MAX_VALUE - chance.nextInt(3);
        if (dice == 2) return low - 1;
        if (dice == 3) return high + 1;
        return low + chance.nextInt(high - low + 1);
    }

    private int place() {
        return m.spots.isEmpty() ? about(0, 3) : about(0, m.spots.size() - 1);
    }

    private int number() {
        return about(0, m.numbers() - 1);
    }

    private int set() {
        int dice = chance.nextInt(4);
        if (dice == 0) return about(0, 127);
        int few = 1 << chance.nextInt(7);
        return dice == 1 ? 0 : dice == 2 ? few : few | 1 << chance.nextInt(7);
    }

    private void write(int sheet, int lane, int[] cells) {
        same("sheet(" + sheet + ", " + lane + ", " + cells.length + ")",
            x.sheet(sheet, lane, cells.length), m.sheet(sheet, lane, cells.length));
        for (int i = 0; i < cells.length; i++) {
            same("put(" + sheet + ", " + i + ", " + cells[i] + ")", x.put(sheet, i, cells[i]), m.put(sheet, i, cells[i]));
        }
    }

    private void newPanel() {
        StringBuilder text = new StringBuilder(String.format("p%02d", 1 + chance.nextInt(chance.nextBoolean() ? 99 : 9)));
        int places = 1 + chance.nextInt(mostPlaces);
        if (chance.nextInt(20) == 0) places = chance.nextInt(6);
        for (int k = 0; k < places; k++) {
            text.append(';').append("fmt".charAt(chance.nextInt(3)));
            text.append(String.format("%03d%03d", set() & 127, chance.nextInt(3) == 0 ? set() & 127 : 0));
        }
        if (chance.nextInt(3) == 0) {
            text.setCharAt(chance.nextInt(text.length()), "p;fmt0123789:/x".charAt(chance.nextInt(15)));
        }
        if (chance.nextInt(4) == 0) text.setLength(chance.nextInt(text.length() + 1));
        int sheet = chance.nextInt(4);
        int lane = chance.nextInt(3);
        write(sheet, lane, text.chars().toArray());
        int i = chance.nextInt(20) == 0 ? about(0, text.length()) : 0;
        int n = chance.nextInt(20) == 0 ? about(0, text.length()) : text.length();
        int asLane = chance.nextInt(20) == 0 ? about(0, 2) : lane;
        int from = chance.nextInt(20) == 0 ? about(0, 3) : sheet;
        same("panel(" + from + ", " + asLane + ", " + i + ", " + n + ")", x.panel(from, asLane, i, n), m.panel(from, asLane, i, n));
    }

    private void manySeen() {
        int places = Math.max(1, m.spots.size());
        int rows = chance.nextInt(5);
        int s = about(0, chance.nextBoolean() ? 9 : 99);
        int[] cells = new int[Math.min(60, rows * places + chance.nextInt(3))];
        int u = chance.nextInt(m.numbers());
        for (int at = 0; at < cells.length; at++) {
            int row = at / places;
            long v = u + (long) row * s;
            int digit = v >= 0 && v < m.numbers() && !m.spots.isEmpty()
                ? m.written((int) v).charAt(at % places) - '0' : chance.nextInt(10);
            cells[at] = m.spots.isEmpty() || chance.nextInt(80) == 0 ? about(0, 127)
                : Model.bits(m.spots.get(at % places).burning(digit));
        }
        int sheet = chance.nextInt(4);
        int lane = chance.nextInt(3);
        write(sheet, lane, cells);
        int asLane = chance.nextInt(20) == 0 ? about(0, 2) : lane;
        int i = chance.nextInt(10) == 0 ? about(0, cells.length) : 0;
        int n = chance.nextInt(10) == 0 ? about(0, 10) : rows;
        for (int what = 0; what < 3; what++) {
            same("seen(" + sheet + ", " + asLane + ", " + i + ", " + n + ", " + s + ", " + what + ")",
                x.seen(sheet, asLane, i, n, s, what), m.seen(sheet, asLane, i, n, s, what));
        }
    }

    private void someOrder() {
        int n = chance.nextInt(7);
        int[] cells = new int[n + chance.nextInt(2)];
        for (int k = 0; k < cells.length; k++) {
            cells[k] = chance.nextInt(60) == 0 ? number() : chance.nextInt(m.numbers());
        }
        int sheet = chance.nextInt(4);
        int lane = m.numbers() <= 100 ? chance.nextInt(3) : 1 + chance.nextInt(2);
        write(sheet, lane, cells);
        int i = chance.nextInt(10) == 0 ? about(0, cells.length) : 0;
        int asked = chance.nextInt(10) == 0 ? about(0, 6) : n;
        for (int what = 9; what <= 16; what++) {
            int of = what == 9 ? 0 : what;
            same("order(" + sheet + ", " + lane + ", " + i + ", " + asked + ", " + of + ")",
                x.order(sheet, lane, i, asked, of), m.order(sheet, lane, i, asked, of));
        }
    }

    private void aReading() {
        int k = place();
        int digit = about(0, 9);
        int set = set();
        if (m.isPlace(k) && digit >= 0 && digit <= 9 && chance.nextInt(5) > 0) {
            Spot s = m.spots.get(k).twin();
            if (chance.nextInt(6) == 0) s.kind = chance.nextInt(3);
            if (chance.nextInt(6) == 0) s.dead[chance.nextInt(7)] ^= true;
            set = Model.bits(s.burning(digit));
        }
        same("reading(" + k + ", " + digit + ", " + set + ")", x.reading(k, digit, set), m.reading(k, digit, set));
    }

    private void aPlaceCall(int which) {
        int k = place();
        int set = set();
        int digit = about(0, 9);
        int bar = about(0, 6);
        int what = about(0, 4);
        switch (which) {
            case 0: same("ofPlace(" + k + ", " + what + ")", x.ofPlace(k, what), m.ofPlace(k, what)); break;
            case 1: same("wear(" + k + ", " + bar + ")", x.wear(k, bar), m.wear(k, bar)); break;
            case 2: same("kill(" + k + ", " + set + ")", x.kill(k, set), m.kill(k, set)); break;
            case 3: same("jam(" + k + ", " + set + ")", x.jam(k, set), m.jam(k, set)); break;
            case 4: same("burns(" + k + ", " + digit + ")", x.burns(k, digit), m.burns(k, digit)); break;
            case 5: same("digits(" + k + ", " + set + ")", x.digits(k, set), m.digits(k, set)); break;
            case 6: same("dies(" + k + ", " + bar + ")", x.dies(k, bar), m.dies(k, bar)); break;
            case 7: same("repair(" + k + ")", x.repair(k), m.repair(k)); break;
            case 8: same("tell(" + k + ")", x.tell(k), m.tell(k)); break;
            case 9: same("hum(" + k + ")", x.hum(k), m.hum(k)); break;
            case 10: same("as(" + k + ", " + (what - 1) + ")", x.as(k, what - 1), m.as(k, what - 1)); break;
            case 11: same("deads(" + k + ", " + what + ")", x.deads(k, what), m.deads(k, what)); break;
            default: same("kinds(" + k + ")", x.kinds(k), m.kinds(k)); break;
        }
    }

    private void aNumberCall(int which) {
        int u = number();
        int v = number();
        int what = about(0, 2);
        int i = chance.nextInt(3) == 0 ? about(0, 9999) : about(0, 4);
        int n = chance.nextBoolean() ? about(1, 500) : about(1, 12);
        if (m.numbers() > 1000 && v - u > 500) v = u + 300;
        switch (which) {
            case 0: same("bars(" + v + ")", x.bars(v), m.bars(v)); break;
            case 1: same("alike(" + v + ")", x.alike(v), m.alike(v)); break;
            case 2: same("which(" + v + ", " + i + ")", x.which(v, i), m.which(v, i)); break;
            case 3: same("flips(" + u + ", " + v + ")", x.flips(u, v), m.flips(u, v)); break;
            case 4: same("counting(" + u + ", " + v + ", " + what + ")", x.counting(u, v, what), m.counting(u, v, what)); break;
            case 5: same("near(" + v + ", " + what + ")", x.near(v, what), m.near(v, what)); break;
            case 6: same("pictures()", x.pictures(), m.pictures()); break;
            case 7: same("go(" + n + ")", x.go(n), m.go(n)); break;
            case 8: same("first(" + what + ")", x.first(what), m.first(what)); break;
            default: same("odds(" + what + ")", x.odds(what), m.odds(what)); break;
        }
    }

    private void aSheetCall(int which) {
        int k = about(0, 3);
        int other = chance.nextInt(3) == 0 ? k : about(0, 3);
        int lane = about(0, 2);
        int i = about(0, chance.nextBoolean() ? 4 : 60);
        int j = about(0, chance.nextBoolean() ? 4 : 60);
        int n = about(0, chance.nextBoolean() ? 4 : 60);
        int v = chance.nextInt();
        int taken = about(0, 8);
        switch (which) {
            case 0: same("sheet(" + k + ", " + lane + ", " + n + ")", x.sheet(k, lane, n), m.sheet(k, lane, n)); break;
            case 1: same("lose(" + k + ")", x.lose(k), m.lose(k)); break;
            case 2: same("put(" + k + ", " + i + ", " + v + ")", x.put(k, i, v), m.put(k, i, v)); break;
            case 3: same("cell(" + k + ", " + i + ", " + lane + ")", x.cell(k, i, lane), m.cellOf(k, i, lane)); break;
            case 4: case 5: case 6:
                same("copy(" + k + ", " + i + ", " + other + ", " + j + ", " + n + ")",
                    x.copy(k, i, other, j, n), m.copy(k, i, other, j, n));
                break;
            case 7: same("back(" + taken + ")", x.back(taken), m.back(taken)); break;
            case 8: same("panel(" + k + ", " + lane + ", " + i + ", " + n + ")", x.panel(k, lane, i, n), m.panel(k, lane, i, n)); break;
            case 9: same("seen(..)", x.seen(k, lane, i, taken, 1, 0), m.seen(k, lane, i, taken, 1, 0)); break;
            default: same("order(..)", x.order(k, lane, i, taken, 0), m.order(k, lane, i, taken, 0)); break;
        }
    }

    private void lookAll() {
        for (int what = -1; what <= 5; what++) {
            same("many(" + what + ")", x.many(what), m.many(what));
        }
        same("trace()", x.trace(), m.trace);
        for (int k = 0; k < 4; k++) {
            for (int what = 0; what < 3; what++) {
                same("ofPlace(" + k + ", " + what + ")", x.ofPlace(k, what), m.ofPlace(k, what));
            }
            for (int bar = 0; bar < 7; bar++) {
                same("wear(" + k + ", " + bar + ")", x.wear(k, bar), m.wear(k, bar));
            }
        }
    }

    private void run(int length) {
        if (chance.nextInt(8) > 0) newPanel();
        for (int t = 0; t < length && wrong <= 5; t++) {
            int dice = chance.nextInt(100);
            if (dice < 2) newPanel();
            else if (dice < 6) manySeen();
            else if (dice < 9) someOrder();
            else if (dice < 19) aReading();
            else if (dice < 58) aPlaceCall(chance.nextInt(13));
            else if (dice < 83) aNumberCall(chance.nextInt(10));
            else aSheetCall(chance.nextInt(11));
            same("fault()", x.fault(), m.fault);
        }
        lookAll();
    }

    public static void main(String[] args) {
        int scale = args.length > 0 ? Integer.parseInt(args[0]) : 1;
        for (int seed = 0; seed < 400 * scale; seed++) {
            new ModelTest(seed, 2).run(60);
        }
        for (int seed = 0; seed < 40 * scale; seed++) {
            new ModelTest(100000 + seed, 3).run(60);
        }
        for (int seed = 0; seed < 6 * scale; seed++) {
            new ModelTest(200000 + seed, 4).run(40);
        }
        System.out.println(calls + " calls: " + (wrong == 0 ? "all answers are as due" : wrong + " answers are not as due"));
        if (wrong != 0) {
            System.exit(1);
        }
    }
}
