/**
 * Figures of seven bars: a panel of places that show numbers, with bars that are dead or stuck
 * and that wear by their flips. The words in capitals are those of the document.
 */
public final class BarFigures {

    public static final int UNKNOWN = -1, OUTSIDE = -2, STATE = -3, FULL = -4, NONE = -9;
    public static final long LOST = Long.MIN_VALUE;

    private static final int NO_FAULT = 0, NULL = 1, CAST = 2, INDEX = 3, SIZE = 4;
    private static final int SHEETS = 4, LANES = 3, BYTES = 0, SHORTS = 1, MOST_CELLS = 60;
    private static final int MOST_PLACES = 4, BARS = 7, SETS = 128, DIGITS = 10;
    private static final int KINDS = 3, MIRRORED = 1, TURNED = 2;
    private static final int MOST_STEPS = 500, LAST_STEP_AHEAD = 1000;
    private static final int MOST_ROWS = 10, MOST_STRIDE = 99;
    private static final int MOST_IN_ORDER = 6, ORDER_PLACES = 10;
    private static final int MOST_READINGS = 8, MOST_NUMBERS = 10000;

    private final Sheet[] sheets = new Sheet[SHEETS];
    private final Panel panel = new Panel();
    private final Readings readings = new Readings();
    private final Sights sights = new Sights();
    private final Ordering ordering = new Ordering();
    private int latestFault;
    private int traced;

    public BarFigures() {
        for (int k = 0; k < SHEETS; k++) {
            sheets[k] = new Sheet();
        }
    }

    // ---- 1 the panel

    public int panel(int sheet, int lane, int i, int n) {
        latestFault = NO_FAULT;
        if (!isWithin(sheet, SHEETS)) {
            return UNKNOWN;
        }
        if (!isWithin(lane, LANES)) {
            return OUTSIDE;
        }
        Sheet from = sheets[sheet];
        int found = from.faultOfCells(lane, i, n);
        if (found != NO_FAULT) {
            return faulted(found);
        }
        int at = Text.firstFault(from, i, n);
        if (at != Text.TAKEN) {
            return -100 - at;
        }
        Text.fill(panel, from, i, n);
        readings.count = 0;
        return panel.count;
    }

    public int ofPlace(int k, int what) {
        if (!isPlace(k)) {
            return UNKNOWN;
        }
        Place place = panel.places[k];
        switch (what) {
            case 0: return place.kind;
            case 1: return place.dead;
            case 2: return place.stuck;
            case 3: return place.unlikeSets();
            case 4: return place.lit(panel.digitOf(panel.shown, k));
            default: return OUTSIDE;
        }
    }

    public int wear(int k, int bar) {
        return isPlace(k) && isWithin(bar, BARS) ? panel.places[k].wears[bar] : UNKNOWN;
    }

    public int kill(int k, int set) {
        if (!isPlace(k)) {
            return UNKNOWN;
        }
        return isWithin(set, SETS) ? panel.places[k].exchangeDead(set) : OUTSIDE;
    }

    public int jam(int k, int set) {
        if (!isPlace(k)) {
            return UNKNOWN;
        }
        return isWithin(set, SETS) ? panel.places[k].exchangeStuck(set) : OUTSIDE;
    }

    public int burns(int k, int digit) {
        if (!isPlace(k)) {
            return UNKNOWN;
        }
        return isWithin(digit, DIGITS) ? panel.places[k].lit(digit) : OUTSIDE;
    }

    public int digits(int k, int set) {
        if (!isPlace(k)) {
            return UNKNOWN;
        }
        return isWithin(set, SETS) ? panel.places[k].digitsOf(set) : OUTSIDE;
    }

    // ---- 2 numbers

    public int bars(int v) {
        if (panel.isNone()) {
            return STATE;
        }
        return panel.isNumber(v) ? panel.litBars(v) : OUTSIDE;
    }

    public int alike(int v) {
        if (panel.isNone()) {
            return STATE;
        }
        return panel.isNumber(v) ? panel.countAlike(v) : OUTSIDE;
    }

    public int which(int v, int i) {
        if (panel.isNone()) {
            return STATE;
        }
        return panel.isNumber(v) && isWithin(i, MOST_NUMBERS) ? panel.numberAlike(v, i) : OUTSIDE;
    }

    public int flips(int u, int v) {
        if (panel.isNone()) {
            return STATE;
        }
        return panel.isNumber(u) && panel.isNumber(v) ? panel.flipsBetween(u, v) : OUTSIDE;
    }

    public int counting(int u, int v, int what) {
        if (panel.isNone()) {
            return STATE;
        }
        if (!panel.isNumber(u) || !panel.isNumber(v) || v < u || !isWithin(what, 3)) {
            return OUTSIDE;
        }
        int still = 0;
        int together = 0;
        int most = 0;
        for (int number = u; number < v; number++) {
            int now = panel.flipsOfStep(number);
            still += now == 0 ? 1 : 0;
            together += now;
            most = Math.max(most, now);
        }
        return pick(what, still, together, most);
    }

    public int near(int v, int what) {
        if (panel.isNone()) {
            return STATE;
        }
        if (!panel.isNumber(v) || !isWithin(what, 2)) {
            return OUTSIDE;
        }
        int nearest = panel.nearestTo(v);
        return what == 0 ? panel.flipsBetween(v, nearest) : nearest;
    }

    public int pictures() {
        return panel.isNone() ? STATE : panel.unlikePictures();
    }

    // ---- 3 steps, what was seen

    public int go(int n) {
        if (panel.isNone()) {
            return STATE;
        }
        if (n < 1 || n > MOST_STEPS) {
            return OUTSIDE;
        }
        int died = 0;
        for (int step = 0; step < n; step++) {
            died += panel.makeStep();
        }
        return died;
    }

    public int dies(int k, int bar) {
        return isPlace(k) && isWithin(bar, BARS)
            ? panel.stepsToDeath(k, bar, LAST_STEP_AHEAD) : UNKNOWN;
    }

    public int first(int what) {
        if (!isWithin(what, 3)) {
            return OUTSIDE;
        }
        if (panel.isNone()) {
            return STATE;
        }
        int place = NONE;
        int bar = NONE;
        int steps = NONE;
        // only a bar that dies earlier than the one found displaces it: so the least of several stays
        int limit = LAST_STEP_AHEAD;
        for (int k = 0; k < panel.count; k++) {
            for (int b = 0; b < BARS; b++) {
                int behind = panel.stepsToDeath(k, b, limit);
                if (behind != NONE) {
                    place = k;
                    bar = b;
                    steps = behind;
                    limit = behind - 1;
                }
            }
        }
        return pick(what, place, bar, steps);
    }

    public int seen(int sheet, int lane, int i, int n, int s, int what) {
        latestFault = NO_FAULT;
        if (!isWithin(sheet, SHEETS)) {
            return UNKNOWN;
        }
        if (!isWithin(lane, LANES) || !isWithin(n, MOST_ROWS + 1)
            || !isWithin(s, MOST_STRIDE + 1) || !isWithin(what, 3)) {
            return OUTSIDE;
        }
        if (panel.isNone()) {
            return STATE;
        }
        Sheet from = sheets[sheet];
        int found = from.faultOfCells(lane, i, n * panel.count);
        if (found != NO_FAULT) {
            return faulted(found);
        }
        if (!sights.fill(panel, from, i, n)) {
            return OUTSIDE;
        }
        return sights.begins(panel, s, what);
    }

    public int repair(int k) {
        return isPlace(k) ? panel.places[k].fewestToMend() : UNKNOWN;
    }

    public int order(int sheet, int lane, int i, int n, int what) {
        latestFault = NO_FAULT;
        if (!isWithin(sheet, SHEETS)) {
            return UNKNOWN;
        }
        if (!isWithin(lane, LANES) || !isWithin(n, MOST_IN_ORDER + 1) || !isOrderQuestion(what)) {
            return OUTSIDE;
        }
        if (panel.isNone()) {
            return STATE;
        }
        Sheet from = sheets[sheet];
        int found = from.faultOfCells(lane, i, n);
        if (found != NO_FAULT) {
            return faulted(found);
        }
        if (!ordering.fill(panel, from, i, n)) {
            return OUTSIDE;
        }
        ordering.search();
        return what == 0 ? ordering.fewest() : ordering.placeOf(what - ORDER_PLACES);
    }

    // ---- 4 what burned

    public int reading(int k, int digit, int set) {
        if (!isPlace(k)) {
            return UNKNOWN;
        }
        if (!isWithin(digit, DIGITS) || !isWithin(set, SETS)) {
            return OUTSIDE;
        }
        return readings.add(k, digit, set);
    }

    public int back(int k) {
        if (k < 0 || k > readings.count) {
            return OUTSIDE;
        }
        readings.count -= k;
        return readings.count;
    }

    public int deads(int k, int what) {
        if (!isPlace(k)) {
            return UNKNOWN;
        }
        if (!isWithin(what, 4)) {
            return OUTSIDE;
        }
        int kind = panel.places[k].kind;
        int many = 0;
        int inAll = SETS - 1;
        int inAny = 0;
        int least = NONE;
        for (int set = 0; set < SETS; set++) {
            if (readings.allAreSo(panel, k, kind, set)) {
                least = many == 0 ? set : least;
                many++;
                inAll &= set;
                inAny |= set;
            }
        }
        if (what == 0) {
            return many;
        }
        return many == 0 ? NONE : pick(what - 1, inAll, inAny, least);
    }

    public int kinds(int k) {
        if (!isPlace(k)) {
            return UNKNOWN;
        }
        int dead = panel.places[k].dead;
        int found = 0;
        for (int kind = 0; kind < KINDS; kind++) {
            if (readings.allAreSo(panel, k, kind, dead)) {
                found |= 1 << kind;
            }
        }
        return found;
    }

    public long odds(int which) {
        if (!isWithin(which, 2) || panel.isNone()) {
            return LOST;
        }
        long upper = panel.lonePictures();
        long lower = panel.last + 1;
        long common = commonDivisor(upper, lower);
        if (common < 1) {
            return LOST;
        }
        return which == 0 ? upper / common : lower / common;
    }

    // ---- 5 sheets, parts

    public int sheet(int k, int lane, int n) {
        latestFault = NO_FAULT;
        if (!isWithin(k, SHEETS)) {
            return UNKNOWN;
        }
        if (!isWithin(lane, LANES) || n > MOST_CELLS) {
            return OUTSIDE;
        }
        if (n < 0) {
            return faulted(SIZE);
        }
        sheets[k].renew(lane, n);
        return 1;
    }

    public int lose(int k) {
        if (!isWithin(k, SHEETS)) {
            return UNKNOWN;
        }
        return sheets[k].dropRow() ? 1 : 0;
    }

    public int put(int k, int i, int v) {
        latestFault = NO_FAULT;
        if (!isWithin(k, SHEETS)) {
            return UNKNOWN;
        }
        Sheet to = sheets[k];
        if (to.isNothing()) {
            return faulted(NULL);
        }
        if (!to.hasCells(i, 1)) {
            return faulted(INDEX);
        }
        to.write(i, v);
        return 1;
    }

    public long cell(int k, int i, int lane) {
        latestFault = NO_FAULT;
        if (!isWithin(k, SHEETS) || !isWithin(lane, LANES)) {
            return LOST;
        }
        latestFault = sheets[k].faultOfCells(lane, i, 1);
        return latestFault == NO_FAULT ? sheets[k].read(i) : LOST;
    }

    public int copy(int k, int i, int other, int j, int n) {
        latestFault = NO_FAULT;
        if (!isWithin(k, SHEETS) || !isWithin(other, SHEETS)) {
            return UNKNOWN;
        }
        Sheet from = sheets[k];
        Sheet to = sheets[other];
        if (from.isNothing() || to.isNothing()) {
            return faulted(NULL);
        }
        if (from.lane != to.lane) {
            return faulted(CAST);
        }
        if (!from.hasCells(i, n) || !to.hasCells(j, n)) {
            return faulted(INDEX);
        }
        to.takeCells(from, i, j, n);
        return n;
    }

    public int tell(int k) {
        if (!isPlace(k)) {
            return UNKNOWN;
        }
        Place place = panel.places[k];
        switch (place.kind) {
            case TURNED: return turnedBody(place);
            case MIRRORED: return mirroredBody(place);
            default: return fairBody(place);
        }
    }

    public int hum(int k) {
        if (!isPlace(k)) {
            return UNKNOWN;
        }
        if (panel.places[k].kind == TURNED) {
            leave(5);
            return 60;
        }
        leave(4);
        return k;
    }

    public int as(int k, int kind) {
        latestFault = NO_FAULT;
        if (!isPlace(k)) {
            return UNKNOWN;
        }
        if (!isWithin(kind, KINDS)) {
            return OUTSIDE;
        }
        // each kind is one of every kind with a lower number
        return panel.places[k].kind >= kind ? 1 : faulted(CAST);
    }

    public int trace() {
        return traced;
    }

    public int fault() {
        return latestFault;
    }

    public int many(int what) {
        switch (what) {
            case 0: return panel.count;
            case 1: return panel.life;
            case 2: return panel.shown;
            case 3: return panel.deadBars();
            case 4: return readings.count;
            default: return OUTSIDE;
        }
    }

    // ---- small helpers

    private static boolean isWithin(int v, int end) {
        return 0 <= v && v < end;
    }

    private boolean isPlace(int k) {
        return isWithin(k, panel.count);
    }

    private static boolean isOrderQuestion(int what) {
        return what == 0 || ORDER_PLACES <= what && what < ORDER_PLACES + MOST_IN_ORDER;
    }

    private int faulted(int which) {
        latestFault = which;
        return -10 - which;
    }

    private static int pick(int what, int zero, int one, int two) {
        return what == 0 ? zero : what == 1 ? one : two;
    }

    private static long commonDivisor(long a, long b) {
        long high = a;
        long low = b;
        // Euclid's steps for numbers up to 10000 are fewer than twenty
        for (int step = 0; step < 64 && low != 0; step++) {
            long rest = high % low;
            high = low;
            low = rest;
        }
        return high;
    }

    private void leave(int body) {
        traced = 31 * traced + body;
    }

    private int fairBody(Place place) {
        leave(1);
        return place.dead;
    }

    private int mirroredBody(Place place) {
        leave(2);
        return fairBody(place) + 100;
    }

    private int turnedBody(Place place) {
        leave(3);
        int mirrored = mirroredBody(place);
        return mirrored + fairBody(place);
    }

    /** A row of a LANE, or nothing. The cells are made once, for the longest row. */
    private static final class Sheet {
        private static final int NOTHING = -1;

        private final int[] cells = new int[MOST_CELLS];
        private int size = NOTHING;
        private int lane;

        private boolean isNothing() {
            return size == NOTHING;
        }

        private void renew(int newLane, int newSize) {
            lane = newLane;
            size = newSize;
            for (int i = 0; i < MOST_CELLS; i++) {
                cells[i] = 0;
            }
        }

        private boolean dropRow() {
            boolean had = !isNothing();
            size = NOTHING;
            return had;
        }

        private boolean hasCells(int i, int n) {
            // the difference, as a sum of i and n could wrap
            return 0 <= i && 0 <= n && i <= size && n <= size - i;
        }

        private int faultOfCells(int asLane, int i, int n) {
            if (isNothing()) {
                return NULL;
            }
            if (lane != asLane) {
                return CAST;
            }
            if (n < 0) {
                return SIZE;
            }
            return hasCells(i, n) ? NO_FAULT : INDEX;
        }

        private int read(int i) {
            return isWithin(i, size) ? cells[i] : 0;
        }

        private void write(int i, int v) {
            if (isWithin(i, size)) {
                cells[i] = lane == BYTES ? (byte) v : lane == SHORTS ? (short) v : v;
            }
        }

        private void takeCells(Sheet from, int i, int j, int n) {
            if (from.hasCells(i, n) && hasCells(j, n)) {
                System.arraycopy(from.cells, i, cells, j, n);
            }
        }
    }

    /** The TEXT of a PANEL, as cells of a SHEET. */
    private static final class Text {
        private static final int TAKEN = -1;
        private static final int HEAD = 3, PER_PLACE = 8, LONGEST = HEAD + MOST_PLACES * PER_PLACE;
        private static final int NO_KIND = -1;
        /** How 127 begins with one, two, three digits: a lesser number can always go on. */
        private static final int[] GREATEST = {1, 12, 127};

        private static int firstFault(Sheet from, int i, int n) {
            for (int at = 0; at < n; at++) {
                if (!goesOn(from, i, at)) {
                    return at;
                }
            }
            boolean isWhole = n >= HEAD + PER_PLACE && (n - HEAD) % PER_PLACE == 0;
            return isWhole ? TAKEN : n;
        }

        /** Whether a TEXT goes on with the code at a place, as all codes ahead of it fit. */
        private static boolean goesOn(Sheet from, int i, int at) {
            int code = from.read(i + at);
            if (at >= LONGEST) {
                return false;
            }
            if (at == 0) {
                return code == 'p';
            }
            if (at < HEAD) {
                return isDigit(code) && (at == 1 || number(from, i + 1, 2) > 0);
            }
            int part = (at - HEAD) % PER_PLACE;
            if (part == 0) {
                return code == ';';
            }
            if (part == 1) {
                return kindOf(code) != NO_KIND;
            }
            int ahead = part < 5 ? part - 2 : part - 5;
            return isDigit(code) && isWithin(ahead, GREATEST.length)
                && number(from, i + at - ahead, ahead + 1) <= GREATEST[ahead];
        }

        private static boolean isDigit(int code) {
            return '0' <= code && code <= '9';
        }

        private static int number(Sheet from, int i, int codes) {
            int v = 0;
            for (int at = i; at < i + codes; at++) {
                v = 10 * v + from.read(at) - '0';
            }
            return v;
        }

        private static int kindOf(int letter) {
            switch (letter) {
                case 'f': return 0;
                case 'm': return MIRRORED;
                case 't': return TURNED;
                default: return NO_KIND;
            }
        }

        /** Makes the PANEL anew by a TEXT without a fault. */
        private static void fill(Panel panel, Sheet from, int i, int n) {
            panel.renew(number(from, i + 1, 2), (n - HEAD) / PER_PLACE);
            for (int k = 0; k < panel.count; k++) {
                int at = i + HEAD + k * PER_PLACE;
                panel.places[k].renew(kindOf(from.read(at + 1)),
                    number(from, at + 2, 3), number(from, at + 5, 3));
            }
        }
    }

    /** The LOOKS of all kinds and digits, made once. */
    private static final class Looks {
        private static final int[] FIGURES = {63, 6, 91, 79, 102, 109, 125, 7, 127, 111};

        private final int[] sets = new int[KINDS * DIGITS];

        private Looks() {
            for (int digit = 0; digit < DIGITS; digit++) {
                int mirrored = leftRight(FIGURES[digit]);
                sets[digit] = FIGURES[digit];
                sets[MIRRORED * DIGITS + digit] = mirrored;
                sets[TURNED * DIGITS + digit] = topBottom(mirrored);
            }
        }

        private int look(int kind, int digit) {
            return isWithin(kind, KINDS) && isWithin(digit, DIGITS) ? sets[kind * DIGITS + digit] : 0;
        }

        private static int leftRight(int set) {
            return exchanged(exchanged(set, 1, 5), 2, 4);
        }

        private static int topBottom(int set) {
            return exchanged(exchanged(exchanged(set, 0, 3), 1, 2), 4, 5);
        }

        private static int exchanged(int set, int a, int b) {
            int unlike = (set >> a ^ set >> b) & 1;
            return set ^ (unlike << a | unlike << b);
        }
    }

    /** One PLACE of the PANEL. */
    private static final class Place {
        private final Looks looks;
        /** What BURNS for each digit, kept as it is asked for far more often than bars change. */
        private final int[] lits = new int[DIGITS];
        private final int[] wears = new int[BARS];
        private int kind;
        private int dead;
        private int stuck;

        private Place(Looks looks) {
            this.looks = looks;
        }

        private void renew(int newKind, int newDead, int newStuck) {
            kind = newKind;
            dead = newDead;
            stuck = newStuck;
            for (int bar = 0; bar < BARS; bar++) {
                wears[bar] = 0;
            }
            light();
        }

        private void light() {
            for (int digit = 0; digit < DIGITS; digit++) {
                lits[digit] = litIf(kind, dead, digit);
            }
        }

        private int lit(int digit) {
            return isWithin(digit, DIGITS) ? lits[digit] : 0;
        }

        private int litIf(int ofKind, int ofDead, int digit) {
            return looks.look(ofKind, digit) & ~ofDead | stuck;
        }

        private int digitsOf(int set) {
            int found = 0;
            for (int digit = 0; digit < DIGITS; digit++) {
                if (lits[digit] == set) {
                    found |= 1 << digit;
                }
            }
            return found;
        }

        private int unlikeSets() {
            int many = 0;
            for (int digit = 0; digit < DIGITS; digit++) {
                int lower = (1 << digit) - 1;
                many += (digitsOf(lits[digit]) & lower) == 0 ? 1 : 0;
            }
            return many;
        }

        private int loneDigits() {
            int many = 0;
            for (int digit = 0; digit < DIGITS; digit++) {
                many += digitsOf(lits[digit]) == 1 << digit ? 1 : 0;
            }
            return many;
        }

        private int exchangeDead(int set) {
            int was = dead;
            dead = set;
            int whole = was & ~set;
            for (int bar = 0; bar < BARS; bar++) {
                if ((whole >> bar & 1) != 0) {
                    wears[bar] = 0;
                }
            }
            light();
            return was;
        }

        private int exchangeStuck(int set) {
            int was = stuck;
            stuck = set;
            light();
            return was;
        }

        /** Wears the bars that flip from a digit to another: how many of them die. */
        private int wearBetween(int digit, int next, int life) {
            int flipped = lit(digit) ^ lit(next);
            int died = 0;
            for (int bar = 0; bar < BARS; bar++) {
                if ((flipped >> bar & 1) != 0) {
                    wears[bar]++;
                    if (wears[bar] >= life) {
                        dead |= 1 << bar;
                        died++;
                    }
                }
            }
            if (died > 0) {
                light();
            }
            return died;
        }

        private boolean isClearIf(int ofDead) {
            int free = ~(ofDead | stuck);
            for (int a = 1; a < DIGITS; a++) {
                int look = looks.look(kind, a);
                for (int b = 0; b < a; b++) {
                    if (((look ^ looks.look(kind, b)) & free) == 0) {
                        return false;
                    }
                }
            }
            return true;
        }

        private int fewestToMend() {
            int best = NONE;
            int fewest = BARS + 1;
            for (int set = 0; set < SETS; set++) {
                int bars = Integer.bitCount(set);
                if ((set & ~dead) == 0 && bars < fewest && isClearIf(dead & ~set)) {
                    best = set;
                    fewest = bars;
                }
            }
            return best;
        }
    }

    /** The PLACES and the NUMBER that they show; without PLACES there is no PANEL. */
    private static final class Panel {
        private final Place[] places = new Place[MOST_PLACES];
        private int count;
        private int life;
        private int shown;
        private int last;

        private Panel() {
            Looks looks = new Looks();
            for (int k = 0; k < MOST_PLACES; k++) {
                places[k] = new Place(looks);
            }
        }

        private void renew(int newLife, int newCount) {
            count = Math.max(0, Math.min(newCount, MOST_PLACES));
            life = newLife;
            shown = 0;
            int numbers = 1;
            for (int k = 0; k < count; k++) {
                numbers *= 10;
            }
            last = numbers - 1;
        }

        private boolean isNone() {
            return count == 0;
        }

        private boolean isNumber(int v) {
            return 0 <= v && v <= last;
        }

        private int digitOf(int number, int k) {
            int rest = number;
            for (int lower = count - 1; lower > k; lower--) {
                rest /= 10;
            }
            return rest % 10;
        }

        private int deadBars() {
            int many = 0;
            for (int k = 0; k < count; k++) {
                many += Integer.bitCount(places[k].dead);
            }
            return many;
        }

        private int litBars(int v) {
            int many = 0;
            for (int k = 0; k < count; k++) {
                many += Integer.bitCount(places[k].lit(digitOf(v, k)));
            }
            return many;
        }

        private int flipsBetween(int u, int v) {
            int many = 0;
            for (int k = 0; k < count; k++) {
                many += Integer.bitCount(places[k].lit(digitOf(u, k)) ^ places[k].lit(digitOf(v, k)));
            }
            return many;
        }

        private static int nextDigit(int digit) {
            return digit >= 9 ? 0 : digit + 1;
        }

        private int flipsOfStep(int number) {
            int many = 0;
            int rest = number;
            for (int k = count - 1; k >= 0; k--) {
                int digit = rest % 10;
                many += Integer.bitCount(places[k].lit(digit) ^ places[k].lit(nextDigit(digit)));
                if (digit != 9) {
                    break;
                }
                rest /= 10;
            }
            return many;
        }

        private int makeStep() {
            int died = 0;
            int rest = shown;
            for (int k = count - 1; k >= 0; k--) {
                int digit = rest % 10;
                died += places[k].wearBetween(digit, nextDigit(digit), life);
                if (digit != 9) {
                    break;
                }
                rest /= 10;
            }
            shown = numberAfter(shown);
            return died;
        }

        private int numberAfter(int number) {
            return number >= last ? 0 : number + 1;
        }

        /** Behind how many STEPS, up to a limit, a bar dies; its flips hang on no other bar. */
        private int stepsToDeath(int k, int bar, int limit) {
            Place place = places[k];
            if (((place.dead | place.stuck) >> bar & 1) != 0) {
                return NONE;
            }
            int wear = place.wears[bar];
            int number = shown;
            int digit = digitOf(number, k);
            for (int step = 1; step <= limit; step++) {
                number = numberAfter(number);
                int next = digitOf(number, k);
                if (next != digit) {
                    wear += (place.lit(digit) ^ place.lit(next)) >> bar & 1;
                    digit = next;
                }
                if (wear >= life) {
                    return step;
                }
            }
            return NONE;
        }

        private int countAlike(int v) {
            int many = 1;
            for (int k = 0; k < count; k++) {
                many *= Integer.bitCount(digitsAlike(k, digitOf(v, k)));
            }
            return many;
        }

        private int digitsAlike(int k, int digit) {
            return places[k].digitsOf(places[k].lit(digit));
        }

        private int numberAlike(int v, int i) {
            int number = 0;
            int weight = 1;
            int ahead = i;
            for (int k = count - 1; k >= 0; k--) {
                int alike = digitsAlike(k, digitOf(v, k));
                int many = Integer.bitCount(alike);
                if (many < 1) {
                    return NONE;
                }
                number += weight * memberOf(alike, ahead % many);
                ahead /= many;
                weight *= 10;
            }
            return ahead == 0 ? number : NONE;
        }

        private static int memberOf(int digits, int i) {
            int ahead = i;
            for (int digit = 0; digit < DIGITS; digit++) {
                if ((digits >> digit & 1) != 0) {
                    if (ahead == 0) {
                        return digit;
                    }
                    ahead--;
                }
            }
            return 0;
        }

        private int nearestTo(int v) {
            if (countAlike(v) == 1) {
                return nearestUnlike(v);
            }
            int least = numberAlike(v, 0);
            return least != v ? least : numberAlike(v, 1);
        }

        /** Where each change of a digit flips bars, the nearest NUMBER has just one other digit. */
        private int nearestUnlike(int v) {
            int nearest = NONE;
            int fewest = MOST_PLACES * BARS + 1;
            int weight = 1;
            for (int k = count - 1; k >= 0; k--) {
                int own = digitOf(v, k);
                for (int digit = 0; digit < DIGITS; digit++) {
                    int number = v + weight * (digit - own);
                    int now = Integer.bitCount(places[k].lit(own) ^ places[k].lit(digit));
                    if (digit != own && (now < fewest || now == fewest && number < nearest)) {
                        nearest = number;
                        fewest = now;
                    }
                }
                weight *= 10;
            }
            return nearest;
        }

        private int unlikePictures() {
            int many = 1;
            for (int k = 0; k < count; k++) {
                many *= places[k].unlikeSets();
            }
            return many;
        }

        private int lonePictures() {
            int many = 1;
            for (int k = 0; k < count; k++) {
                many *= places[k].loneDigits();
            }
            return many;
        }
    }

    /** The rows SEEN, as the digits that each of their cells can be. */
    private static final class Sights {
        private final int[] fits = new int[MOST_ROWS * MOST_PLACES];
        private int rows;

        /** False: a cell is no set. */
        private boolean fill(Panel panel, Sheet from, int i, int n) {
            rows = n;
            int k = 0;
            for (int at = 0; at < n * panel.count && at < fits.length; at++) {
                int set = from.read(i + at);
                if (!isWithin(set, SETS)) {
                    return false;
                }
                fits[at] = panel.places[k].digitsOf(set);
                k = k + 1 < panel.count ? k + 1 : 0;
            }
            return true;
        }

        private int begins(Panel panel, int s, int what) {
            int many = 0;
            int least = NONE;
            int greatest = NONE;
            for (int u = 0; u <= panel.last; u++) {
                if (isBegin(panel, u, s)) {
                    least = many == 0 ? u : least;
                    greatest = u;
                    many++;
                }
            }
            return pick(what, many, least, greatest);
        }

        private boolean isBegin(Panel panel, int u, int s) {
            int number = u;
            for (int row = 0; row < rows; row++) {
                if (number > panel.last || !isRow(panel.count, row, number)) {
                    return false;
                }
                number += s;
            }
            return true;
        }

        private boolean isRow(int places, int row, int number) {
            int rest = number;
            for (int k = places - 1; k >= 0; k--) {
                int at = row * places + k;
                if (!isWithin(at, fits.length) || (fits[at] >> rest % 10 & 1) == 0) {
                    return false;
                }
                rest /= 10;
            }
            return true;
        }
    }

    /** The search for the ORDER of some NUMBERS. */
    private static final class Ordering {
        private static final int NOT_YET = MOST_IN_ORDER * MOST_PLACES * BARS + 1;

        private final int[] numbers = new int[MOST_IN_ORDER];
        private final int[] gaps = new int[MOST_IN_ORDER * MOST_IN_ORDER];
        private final int[] row = new int[MOST_IN_ORDER];
        private final int[] best = new int[MOST_IN_ORDER];
        private int count;
        private int least;

        /** False: a cell is no NUMBER. */
        private boolean fill(Panel panel, Sheet from, int i, int n) {
            count = Math.min(n, MOST_IN_ORDER);
            for (int k = 0; k < count; k++) {
                numbers[k] = from.read(i + k);
                if (!panel.isNumber(numbers[k])) {
                    return false;
                }
            }
            for (int a = 0; a < count; a++) {
                for (int b = 0; b < count; b++) {
                    gaps[a * MOST_IN_ORDER + b] = panel.flipsBetween(numbers[a], numbers[b]);
                }
            }
            return true;
        }

        private void search() {
            least = NOT_YET;
            extend(this, 0, 0, 0);
        }

        /** Tries rows in their order, so that of several that are as good the first one stays. */
        private static void extend(Ordering o, int depth, int used, int together) {
            if (together >= o.least) {
                return;
            }
            if (depth >= o.count) {
                o.least = together;
                System.arraycopy(o.row, 0, o.best, 0, o.count);
                return;
            }
            for (int k = 0; k < o.count; k++) {
                if ((used >> k & 1) == 0) {
                    o.row[depth] = k;
                    int gap = depth == 0 ? 0 : o.gaps[o.row[depth - 1] * MOST_IN_ORDER + k];
                    extend(o, depth + 1, used | 1 << k, together + gap);
                }
            }
        }

        private int fewest() {
            return least;
        }

        private int placeOf(int k) {
            return isWithin(k, count) ? best[k] : NONE;
        }
    }

    /** What was read, oldest first. */
    private static final class Readings {
        private final int[] places = new int[MOST_READINGS];
        private final int[] digits = new int[MOST_READINGS];
        private final int[] sets = new int[MOST_READINGS];
        private int count;

        private int add(int k, int digit, int set) {
            if (count >= MOST_READINGS) {
                return FULL;
            }
            places[count] = k;
            digits[count] = digit;
            sets[count] = set;
            count++;
            return count - 1;
        }

        /** Whether all READINGS are so, if one PLACE were of a kind with DEAD bars, all else as it is. */
        private boolean allAreSo(Panel panel, int k, int kind, int dead) {
            for (int r = 0; r < count; r++) {
                if (!isWithin(places[r], panel.count)) {
                    return false;
                }
                Place place = panel.places[places[r]];
                int lit = places[r] == k ? place.litIf(kind, dead, digits[r]) : place.lit(digits[r]);
                if (lit != sets[r]) {
                    return false;
                }
            }
            return true;
        }
    }
}
