import java.util.Arrays;

/**
 * A town of choices, maps of it that are each wrong in their own way, and what can still be known of
 * the town by them. The document's promises say what each call answers; its words stand in capitals.
 */
public final class EveryMapWrong {
    public static final int NONE = -1, BAD = -2, STATE = -3, FULL = -4;
    public static final long NO = -4611686018427387904L;

    private static final int NO_SUCH = -5, NOT_TOLD = -7;
    private static final int NOTHING_THERE = -11, OUTSIDE = -12, OTHER_SORT = -13, BELOW_ZERO = -14;
    /** The -1 that is an answer, no refusal. */
    private static final int NOTHING = -1;

    private static final int MOST_CHOICES = 9, MOST_TOWNS = 512, PLACES = 6;
    private static final int MOST_MAPS = 8, MOST_SETS = 256, MOST_STREETS = 12;
    private static final int MOST_GOERS = 6, MOST_TEXTS = 6, MOST_SHEETS = 4;
    private static final int MOST_PRICE = 99, MOST_COIN = 9999, MOST_SEED = 99999;
    private static final int MOST_VALUE = 999, NEVER_COMES = 99, MAY_NOT_BE = 99;
    /** Longer than any way can take, and far from where adding to it would wrap. */
    private static final int NEVER = 1000000;
    private static final long LOT_FACTOR = 48271L, LOT_MODULUS = 2147483647L;
    private static final String FIRST_LAW = "may 1 ; harm far ; price 3 + worlds ;";

    private int choices = 6;
    private int seen;
    private int seenSo;
    private final Atlas atlas = new Atlas();
    private final Streets streets = new Streets();
    private final int[] goers = new int[MOST_GOERS];
    private int goerCount;
    private final Text[] texts = new Text[MOST_TEXTS];
    private int textCount;
    private int law;
    private final Reader tape = new Reader();
    private final Image kept = new Image();
    private final Sheet[] sheets = new Sheet[MOST_SHEETS];
    // The rows below are made once and used by every call, since a run's calls share one room.
    private final Worlds found = new Worlds();
    private final int[] worldsBySet = new int[MOST_SETS];
    private final int[] soBySet = new int[MOST_SETS];
    private final boolean[] wanted = new boolean[MOST_SETS];
    private final AtWorst atWorst = new AtWorst(streets);

    public EveryMapWrong() {
        for (int i = 0; i < FIRST_LAW.length(); i++) {
            tape.add(FIRST_LAW.charAt(i));
        }
        texts[0] = tape.readText();
        tape.clear();
        textCount = 1;
        for (int s = 0; s < MOST_SHEETS; s++) {
            sheets[s] = new Sheet();
        }
    }

    // ---- the town, the law

    public int town(int n) {
        if (n < 1 || n > MOST_CHOICES) {
            return BAD;
        }
        if (atlas.size > 0 || streets.size > 0) {
            return STATE;
        }
        int was = choices;
        choices = n;
        seen = 0;
        seenSo = 0;
        kept.isThere = false;
        return was;
    }

    public int count(int what) {
        switch (what) {
            case 0: return choices;
            case 1: return atlas.size;
            case 2: return streets.size;
            case 3: return goerCount;
            case 4: return textCount;
            case 5: return law;
            case 6: return tape.size;
            case 7: return seen;
            case 8: return seenSo;
            default: return BAD;
        }
    }

    public int feed(long w, int n) {
        if (n < 1 || n > 8) {
            return BAD;
        }
        if (tape.size + n > Reader.MOST_BYTES) {
            return FULL;
        }
        for (int i = n - 1; i >= 0; i--) {
            tape.add((int) (w >> 8 * i) & 255);
        }
        return tape.size;
    }

    public int text() {
        if (textCount >= MOST_TEXTS) {
            return FULL;
        }
        Text text = tape.readText();
        tape.clear();
        if (text == null) {
            return -100 - tape.fault;
        }
        texts[textCount] = text;
        textCount++;
        return textCount - 1;
    }

    public int force(int t) {
        if (t < 0 || t >= textCount) {
            return BAD;
        }
        int was = law;
        law = t;
        return was;
    }

    public int may(int t) {
        if (!isTown(t)) {
            return BAD;
        }
        return lawAllows(t) ? 1 : 0;
    }

    // ---- maps

    public int map(int kind, int says, int mask, int more) {
        if (kind < Chart.MAP || kind > Chart.SWAPPED || !isTown(says) || !isTown(mask)) {
            return BAD;
        }
        if (more < 0 || more > 9 || kind == Chart.COPY && more >= atlas.size) {
            return BAD;
        }
        return atlas.add(kind, says, mask, more);
    }

    public int drop() {
        if (atlas.size == 0) {
            return STATE;
        }
        atlas.shrinkTo(atlas.size - 1);
        if (kept.mapCount > atlas.size) {
            kept.isThere = false;
        }
        return atlas.size;
    }

    public int price(int m, int v) {
        Chart chart = atlas.chartAt(m);
        if (chart == null) {
            return NONE;
        }
        if (v < 0 || v > MOST_PRICE) {
            return BAD;
        }
        int was = chart.cost;
        chart.cost = v;
        return was;
    }

    public int told(int m, int what) {
        Chart chart = atlas.chartAt(m);
        if (chart == null) {
            return NO_SUCH;
        }
        switch (what) {
            case 0: return chart.kind;
            case 1: return chart.says;
            case 2: return chart.mask;
            case 3: return chart.more;
            case 4: return chart.cost;
            default: return NOT_TOLD;
        }
    }

    public int slips(int m, int t, int what) {
        Chart chart = atlas.chartAt(m);
        if (chart == null) {
            return NO_SUCH;
        }
        if (!isTown(t) || !isZeroOrOne(what)) {
            return NOT_TOLD;
        }
        return what == 0 ? chart.slipsIn(t) : atlas.agreeingWith(t) >> m & 1;
    }

    public int look(int c, int v) {
        if (!isChoice(c)) {
            return NO_SUCH;
        }
        if (v < -1 || v > 1) {
            return NOT_TOLD;
        }
        int was = hasChoice(seen, c) ? seenSo >> c & 1 : -1;
        int bit = 1 << c;
        seen = v < 0 ? seen & ~bit : seen | bit;
        seenSo = v == 1 ? seenSo | bit : seenSo & ~bit;
        return was;
    }

    // ---- worlds

    public int worlds(int set) {
        if (set < 0 || set > atlas.everyMap()) {
            return BAD;
        }
        return findWorlds(set);
    }

    public int world(int k) {
        findWorlds(atlas.everyMap());
        return found.townAt(k);
    }

    public int sure(int what) {
        if (what < 0 || what > 2) {
            return BAD;
        }
        if (findWorlds(atlas.everyMap()) == 0) {
            return STATE;
        }
        switch (what) {
            case 0: return found.soInAll();
            case 1: return everyChoice() & ~found.soInSome();
            default: return found.soInSome() & ~found.soInAll();
        }
    }

    public int none() {
        tally(worldsBySet, 0);
        for (int set = 0; set < MOST_SETS; set++) {
            wanted[set] = worldsBySet[set] == 0;
        }
        return fewestWanted();
    }

    public int judge(int t) {
        if (!isTown(t)) {
            return BAD;
        }
        if (!mayBeRight(t)) {
            return MAY_NOT_BE;
        }
        return firstOf(atlas.everyMap() & ~atlas.agreeingWith(t));
    }

    // ---- ways

    public int street(int u, int v, int c, int takes) {
        if (!isPlace(u) || !isPlace(v) || u == v) {
            return BAD;
        }
        if (c != Street.ALWAYS && !isChoice(c) || takes < 1 || takes > 99) {
            return BAD;
        }
        return streets.add(u, v, c, takes);
    }

    public int way(int two, int t) {
        if (!isTwo(two)) {
            return NO_SUCH;
        }
        if (!isTown(t)) {
            return NOT_TOLD;
        }
        return streets.shortest(two, streets.openIn(t));
    }

    public int safe(int two) {
        if (!isTwo(two)) {
            return NO_SUCH;
        }
        if (findWorlds(atlas.everyMap()) == 0) {
            return STATE;
        }
        return streets.shortest(two, streets.openIn(found.soInAll()));
    }

    public int soon(int two) {
        if (!isTwo(two)) {
            return NO_SUCH;
        }
        if (!findFewWorlds()) {
            return STATE;
        }
        atWorst.study(found, goalOf(two));
        return atWorst.longestFrom(startOf(two));
    }

    public int step(int two, int t) {
        if (!isTwo(two)) {
            return NO_SUCH;
        }
        if (!isTown(t)) {
            return NOT_TOLD;
        }
        if (!findFewWorlds() || found.placeOf(t) < 0) {
            return STATE;
        }
        atWorst.study(found, goalOf(two));
        return atWorst.firstStreet(startOf(two), found.placeOf(t));
    }

    public int trip(int m, int two, int t) {
        Chart chart = atlas.chartAt(m);
        if (chart == null || !isTwo(two)) {
            return NO_SUCH;
        }
        if (!isTown(t)) {
            return NOT_TOLD;
        }
        return streets.walk(two, chart.says, t);
    }

    public int goer(int two) {
        if (!isTwo(two)) {
            return BAD;
        }
        if (goerCount >= MOST_GOERS) {
            return FULL;
        }
        goers[goerCount] = two;
        goerCount++;
        return goerCount - 1;
    }

    public int harm(int t, int c) {
        if (!isTown(t)) {
            return BAD;
        }
        if (!isChoice(c)) {
            return NO_SUCH;
        }
        return harmOfSlip(t, c);
    }

    public int put(int t, int what) {
        if (!isTown(t) || !isZeroOrOne(what)) {
            return BAD;
        }
        int best = 0;
        int least = harmOfSlip(t, 0);
        for (int c = 1; c < choices; c++) {
            int sum = harmOfSlip(t, c);
            if (sum < least) {
                best = c;
                least = sum;
            }
        }
        return what == 0 ? best : least;
    }

    public int trick(int t, int g, int what) {
        if (!isTown(t) || !isZeroOrOne(what)) {
            return BAD;
        }
        if (g < 0 || g >= goerCount) {
            return NO_SUCH;
        }
        int best = 0;
        int most = harmForOne(g, t, t ^ 1);
        for (int c = 1; c < choices; c++) {
            int one = harmForOne(g, t, t ^ 1 << c);
            if (one > most) {
                best = c;
                most = one;
            }
        }
        return what == 0 ? best : most;
    }

    // ---- how many maps, where to look

    public int enough(int c) {
        if (!isChoice(c)) {
            return NO_SUCH;
        }
        tally(worldsBySet, 0);
        if (numberAt(worldsBySet, atlas.everyMap()) == 0) {
            return STATE;
        }
        tally(soBySet, 1 << c);
        for (int set = 0; set < MOST_SETS; set++) {
            wanted[set] = soBySet[set] == 0 || soBySet[set] == worldsBySet[set];
        }
        return fewestWanted();
    }

    public int many() {
        tally(worldsBySet, 0);
        int byAll = numberAt(worldsBySet, atlas.everyMap());
        for (int set = 0; set < MOST_SETS; set++) {
            wanted[set] = worldsBySet[set] == byAll;
        }
        return fewestWanted();
    }

    public int next(int what) {
        if (!isZeroOrOne(what)) {
            return BAD;
        }
        int least = findWorlds(atlas.everyMap());
        if (least == 0) {
            return STATE;
        }
        int best = NOTHING;
        for (int c = 0; c < choices; c++) {
            int so = found.howManyHave(c);
            int left = Math.max(so, found.size - so);
            if (left < least) {
                best = c;
                least = left;
            }
        }
        return what == 0 ? best : least;
    }

    public int looks() {
        if (!findFewWorlds()) {
            return STATE;
        }
        return found.looksAtWorst(choices);
    }

    // ---- maps from maps, sheets, years, what to buy

    public int from(int m) {
        Chart chart = atlas.chartAt(m);
        if (chart == null) {
            return NO_SUCH;
        }
        int near = 0;
        for (int other = 0; other < atlas.size; other++) {
            if (atlas.unlike(m, other) == 1) {
                near |= 1 << other;
            }
        }
        return near;
    }

    public int tree() {
        return atlas.drawFromOneAnother();
    }

    public int drawnFrom(int m) {
        if (atlas.chartAt(m) == null) {
            return NO_SUCH;
        }
        atlas.drawFromOneAnother();
        return atlas.originOf(m);
    }

    public int over(int a, int b, int what) {
        Chart one = atlas.chartAt(a);
        Chart other = atlas.chartAt(b);
        if (one == null || other == null) {
            return NO_SUCH;
        }
        if (!isZeroOrOne(what)) {
            return NOT_TOLD;
        }
        int unlike = (one.says ^ other.says) & one.shown() & other.shown() & everyChoice();
        return what == 0 ? unlike : Integer.bitCount(unlike);
    }

    public int join() {
        return findWorlds(atlas.everyPart());
    }

    public int years(int m, int what) {
        Chart chart = atlas.chartAt(m);
        if (chart == null) {
            return NO_SUCH;
        }
        if (!isZeroOrOne(what)) {
            return NOT_TOLD;
        }
        if (findWorlds(atlas.everyMap() & ~(1 << m)) == 0) {
            return NOTHING;
        }
        int least = MOST_CHOICES;
        int most = 0;
        for (int k = 0; k < found.size; k++) {
            int years = Math.max(0, Integer.bitCount(chart.says ^ found.townAt(k)) - 1);
            least = Math.min(least, years);
            most = Math.max(most, years);
        }
        return what == 0 ? least : most;
    }

    public int buy(int coin, int what) {
        if (coin < 0 || coin > MOST_COIN || !isZeroOrOne(what)) {
            return BAD;
        }
        tally(worldsBySet, 0);
        int best = 0;
        for (int set = 1; set <= atlas.everyMap(); set++) {
            if (atlas.costOf(set) <= coin && isBetterBuy(set, best)) {
                best = set;
            }
        }
        return what == 0 ? best : numberAt(worldsBySet, best);
    }

    public int worth(int m) {
        Chart chart = atlas.chartAt(m);
        Text text = lawText();
        if (chart == null || text == null) {
            return NO_SUCH;
        }
        int byAll = findWorlds(atlas.everyMap());
        int byOthers = findWorlds(atlas.everyMap() & ~(1 << m));
        return bounded(text.priceOf(chart.says, byOthers - byAll));
    }

    public int drawn(int seed, int what) {
        if (seed < 0 || seed > MOST_SEED || what < 0 || what > 2) {
            return BAD;
        }
        if (findWorlds(atlas.everyMap()) == 0) {
            return STATE;
        }
        long first = (seed + 1) * LOT_FACTOR % LOT_MODULUS;
        long second = first * LOT_FACTOR % LOT_MODULUS;
        int town = found.townAt(found.size < 1 ? 0 : (int) (first % found.size));
        int choice = choices < 1 ? 0 : (int) (second % choices);
        switch (what) {
            case 0: return town;
            case 1: return town ^ 1 << choice;
            default: return choice;
        }
    }

    public int image() {
        kept.isThere = true;
        kept.seen = seen;
        kept.seenSo = seenSo;
        kept.law = law;
        kept.mapCount = atlas.size;
        for (int m = 0; m < MOST_MAPS; m++) {
            Chart chart = atlas.chartAt(m);
            kept.prices[m] = chart == null ? 0 : chart.cost;
        }
        return atlas.size;
    }

    public int back() {
        if (!kept.isThere) {
            return STATE;
        }
        seen = kept.seen;
        seenSo = kept.seenSo;
        law = kept.law;
        atlas.shrinkTo(kept.mapCount);
        for (int m = 0; m < MOST_MAPS; m++) {
            Chart chart = atlas.chartAt(m);
            if (chart != null) {
                chart.cost = kept.prices[m];
            }
        }
        return atlas.size;
    }

    // ---- the host

    public int sheet(int s, int sort, int n) {
        Sheet sheet = sheetAt(s);
        if (sheet == null || sort < Sheet.MISSING || sort > Sheet.INTS) {
            return BAD;
        }
        if (sort == Sheet.MISSING) {
            sheet.become(sort, 0);
            return 1;
        }
        if (n > Sheet.MOST_NUMBERS) {
            return BAD;
        }
        if (n < 0) {
            return BELOW_ZERO;
        }
        sheet.become(sort, n);
        return 1;
    }

    public int cell(int s, int i, int v) {
        Sheet sheet = sheetAt(s);
        if (sheet == null) {
            return BAD;
        }
        if (sheet.sort == Sheet.MISSING) {
            return NOTHING_THERE;
        }
        if (!sheet.spans(i, 1)) {
            return OUTSIDE;
        }
        sheet.write(i, v);
        return 1;
    }

    public int copy(int s, int i, int other, int j, int n) {
        Sheet source = sheetAt(s);
        Sheet target = sheetAt(other);
        if (source == null || target == null) {
            return BAD;
        }
        if (source.sort == Sheet.MISSING || target.sort == Sheet.MISSING) {
            return NOTHING_THERE;
        }
        if (source.sort != target.sort) {
            return OTHER_SORT;
        }
        if (n < 0 || !source.spans(i, n) || !target.spans(j, n)) {
            return OUTSIDE;
        }
        System.arraycopy(source.numbers, i, target.numbers, j, n);
        return n;
    }

    public int mapsBy(int s, int sort, int at, int n) {
        Sheet sheet = sheetAt(s);
        if (sheet == null || sort < Sheet.BYTES || sort > Sheet.INTS || n < 0 || n > 8) {
            return BAD;
        }
        if (sheet.sort == Sheet.MISSING) {
            return NOTHING_THERE;
        }
        if (sheet.sort != sort) {
            return OTHER_SORT;
        }
        int came = 0;
        for (int k = 0; k < n; k++) {
            // Four places that begin ahead of any sheet's end can't wrap.
            int place = at > Sheet.MOST_NUMBERS ? at : at + 4 * k;
            if (!sheet.spans(place, 4)) {
                return OUTSIDE;
            }
            if (mapByFour(sheet, place) >= 0) {
                came++;
            }
        }
        return came;
    }

    public int taken(int i, int kind) {
        if (kind < Chart.MAP || kind > Chart.SWAPPED + 1) {
            return BAD;
        }
        if (i < 0 || i >= MOST_STREETS + MOST_MAPS) {
            return OUTSIDE;
        }
        boolean asStreet = kind > Chart.SWAPPED;
        if (i < MOST_STREETS) {
            Street street = streets.streetAt(i);
            return street == null ? NOTHING_THERE : asStreet ? street.takes : OTHER_SORT;
        }
        Chart chart = atlas.chartAt(i - MOST_STREETS);
        if (chart == null) {
            return NOTHING_THERE;
        }
        return asStreet || !chart.isOne(kind) ? OTHER_SORT : i - MOST_STREETS;
    }

    // ---- what numbers stand for

    private boolean isTown(int t) {
        return t >= 0 && t < 1 << choices;
    }

    private boolean isChoice(int c) {
        return c >= 0 && c < choices;
    }

    private int everyChoice() {
        return (1 << choices) - 1;
    }

    private static boolean isPlace(int p) {
        return p >= 0 && p < PLACES;
    }

    private static boolean isTwo(int two) {
        return two >= 0 && isPlace(startOf(two)) && isPlace(goalOf(two));
    }

    private static int startOf(int two) {
        return two / 10;
    }

    private static int goalOf(int two) {
        return two % 10;
    }

    private static boolean isZeroOrOne(int what) {
        return what == 0 || what == 1;
    }

    private static boolean hasChoice(int town, int c) {
        return (town >> c & 1) == 1;
    }

    /** The lowest of some numbers that are told as bits; -1, if there is none. */
    private static int firstOf(int set) {
        for (int i = 0; i < 31; i++) {
            if ((set >> i & 1) == 1) {
                return i;
            }
        }
        return NOTHING;
    }

    private static int bounded(int value) {
        return Math.max(0, Math.min(MOST_VALUE, value));
    }

    private static int numberAt(int[] row, int i) {
        return i >= 0 && i < row.length ? row[i] : 0;
    }

    private static void setNumber(int[] row, int i, int v) {
        if (i >= 0 && i < row.length) {
            row[i] = v;
        }
    }

    private Sheet sheetAt(int s) {
        return s >= 0 && s < sheets.length ? sheets[s] : null;
    }

    // ---- the law and the worlds

    private Text lawText() {
        return law >= 0 && law < texts.length ? texts[law] : null;
    }

    private boolean lawAllows(int t) {
        Text text = lawText();
        return text != null && text.allows(t);
    }

    private boolean mayBeRight(int t) {
        return (t & seen) == seenSo && lawAllows(t);
    }

    /** Finds the WORLDS by some MAPS; answers how many there are. */
    private int findWorlds(int set) {
        found.size = 0;
        for (int t = 0; t <= everyChoice(); t++) {
            if ((atlas.agreeingWith(t) & set) == set && mayBeRight(t)) {
                found.add(t);
            }
        }
        return found.size;
    }

    private boolean findFewWorlds() {
        int many = findWorlds(atlas.everyMap());
        return many >= 1 && many <= Worlds.FEW;
    }

    /** How many WORLDS that have some choices there are, by each set of MAPS at once. */
    private void tally(int[] bySet, int having) {
        Arrays.fill(bySet, 0);
        int every = atlas.everyMap();
        for (int t = 0; t <= everyChoice(); t++) {
            if ((t & having) == having && mayBeRight(t)) {
                addTo(bySet, atlas.agreeingWith(t) & every, 1);
            }
        }
        // A town that agrees with a set agrees with each of its parts: sum up over the larger sets.
        for (int m = 0; m < atlas.size; m++) {
            for (int set = 0; set <= every; set++) {
                if ((set >> m & 1) == 0) {
                    addTo(bySet, set, numberAt(bySet, set | 1 << m));
                }
            }
        }
    }

    private static void addTo(int[] row, int i, int more) {
        setNumber(row, i, numberAt(row, i) + more);
    }

    private int fewestWanted() {
        int best = NOTHING;
        for (int set = 0; set <= atlas.everyMap() && set < wanted.length; set++) {
            if (wanted[set] && (best < 0 || Integer.bitCount(set) < Integer.bitCount(best))) {
                best = set;
            }
        }
        return best;
    }

    private boolean isBetterBuy(int set, int best) {
        int left = numberAt(worldsBySet, set);
        int leftByBest = numberAt(worldsBySet, best);
        return left < leftByBest || left == leftByBest && atlas.costOf(set) < atlas.costOf(best);
    }

    private int mapByFour(Sheet sheet, int place) {
        return map(sheet.numberAtPlace(place), sheet.numberAtPlace(place + 1),
                sheet.numberAtPlace(place + 2), sheet.numberAtPlace(place + 3));
    }

    // ---- harm

    private int harmOfSlip(int town, int c) {
        int sum = 0;
        for (int g = 0; g < goerCount; g++) {
            sum += harmForOne(g, town, town ^ 1 << c);
        }
        return sum;
    }

    private int harmForOne(int g, int town, int says) {
        int two = numberAt(goers, g);
        Text text = lawText();
        int shortest = streets.shortest(two, streets.openIn(town));
        if (shortest < 0 || text == null) {
            return 0;
        }
        int walked = streets.walk(two, says, town);
        return bounded(text.harmOf(town, walked < 0 ? NEVER_COMES : walked - shortest));
    }

    /** A MAP of any KIND; what it says stays, only what it costs changes. */
    private static final class Chart {
        static final int MAP = 0, COPY = 1, MENDED = 2, PART = 3, OLD = 4, SWAPPED = 5;

        final int kind, says, mask, more;
        /** Of a COPY: what it SAYS otherwise than the MAP that it is a copy of. */
        final int unlikeModel;
        int cost = 1;

        Chart(int kind, int says, int mask, int more, int unlikeModel) {
            this.kind = kind;
            this.says = says;
            this.mask = mask;
            this.more = more;
            this.unlikeModel = unlikeModel;
        }

        int shown() {
            return kind == PART ? mask : -1;
        }

        int slipsIn(int town) {
            return (says ^ town) & shown();
        }

        boolean isOne(int other) {
            return other == MAP || other == kind || other == MENDED && kind == PART;
        }

        /** The earlier MAPS that AGREE are told, since a COPY agrees by its model, which is one of them. */
        boolean agreesWith(int town, int earlierAgreeing) {
            int slips = slipsIn(town);
            int many = Integer.bitCount(slips);
            switch (kind) {
                case COPY: return Integer.bitCount(unlikeModel) == 1 && (earlierAgreeing >> more & 1) == 1;
                case MENDED:
                case PART: return many <= 1;
                case OLD: return many <= more + 1;
                case SWAPPED: return many == 2 && areNeighbours(slips) && Integer.bitCount(slips & town) == 1;
                default: return many == 1;
            }
        }

        private static boolean areNeighbours(int two) {
            return (two & two << 1) != 0;
        }
    }

    /** The MAPS there are, and with which of them each TOWN agrees. */
    private static final class Atlas {
        private final Chart[] charts = new Chart[MOST_MAPS];
        int size;
        // What a map says of a town never changes, so it is asked only once, when the map comes.
        private final int[] agreeing = new int[MOST_TOWNS];
        private final int[] origins = new int[MOST_MAPS];

        Chart chartAt(int m) {
            return m >= 0 && m < size && m < charts.length ? charts[m] : null;
        }

        /** The number of a new map; FULL, if there can be no more. */
        int add(int kind, int says, int mask, int more) {
            if (size < 0 || size >= charts.length) {
                return FULL;
            }
            Chart model = chartAt(more);
            int unlikeModel = kind == Chart.COPY && model != null ? model.says ^ says : 0;
            Chart chart = new Chart(kind, says, mask, more, unlikeModel);
            int bit = 1 << size;
            for (int t = 0; t < agreeing.length; t++) {
                int others = agreeing[t] & ~bit;
                agreeing[t] = chart.agreesWith(t, others) ? others | bit : others;
            }
            charts[size] = chart;
            size++;
            return size - 1;
        }

        void shrinkTo(int many) {
            size = Math.max(0, Math.min(size, many));
        }

        int everyMap() {
            return (1 << size) - 1;
        }

        int everyPart() {
            int parts = 0;
            for (int m = 0; m < size; m++) {
                Chart chart = chartAt(m);
                if (chart != null && chart.isOne(Chart.PART)) {
                    parts |= 1 << m;
                }
            }
            return parts;
        }

        int agreeingWith(int town) {
            return numberAt(agreeing, town) & everyMap();
        }

        int costOf(int set) {
            int sum = 0;
            for (int m = 0; m < size; m++) {
                Chart chart = chartAt(m);
                if (chart != null && (set >> m & 1) == 1) {
                    sum += chart.cost;
                }
            }
            return sum;
        }

        /** How many CHOICES two MAPS say unlike. */
        int unlike(int a, int b) {
            Chart one = chartAt(a);
            Chart other = chartAt(b);
            return one == null || other == null ? 0 : Integer.bitCount(one.says ^ other.says);
        }

        int originOf(int m) {
            return numberAt(origins, m);
        }

        /** Draws all MAPS from MAP 0 on; answers what they say otherwise than their origins, all together. */
        int drawFromOneAnother() {
            Arrays.fill(origins, NOTHING);
            int sum = 0;
            int drawn = 1;
            for (int times = 1; times < size; times++) {
                int next = nearestLeft(drawn);
                sum += unlike(next, originOf(next));
                drawn |= 1 << next;
            }
            return sum;
        }

        /** The MAP to be drawn next; its origin is kept. */
        private int nearestLeft(int drawn) {
            int best = 0;
            int least = MOST_CHOICES + 1;
            for (int m = 0; m < size; m++) {
                for (int origin = 0; origin < size && (drawn >> m & 1) == 0; origin++) {
                    if ((drawn >> origin & 1) == 1 && unlike(m, origin) < least) {
                        best = m;
                        least = unlike(m, origin);
                        setNumber(origins, m, origin);
                    }
                }
            }
            return best;
        }
    }

    /** Some TOWNS in order of their numbers, of which any may be the right one. */
    private static final class Worlds {
        /** For more WORLDS than these some calls do not answer. */
        static final int FEW = 7;

        private final int[] towns = new int[MOST_TOWNS];
        int size;
        private final int[] looksBySet = new int[1 << FEW];

        void add(int town) {
            if (size >= 0 && size < towns.length) {
                towns[size] = town;
                size++;
            }
        }

        int townAt(int k) {
            return k >= 0 && k < size && k < towns.length ? towns[k] : NOTHING;
        }

        int placeOf(int town) {
            for (int k = 0; k < size; k++) {
                if (townAt(k) == town) {
                    return k;
                }
            }
            return NOTHING;
        }

        int soInAll() {
            int so = MOST_TOWNS - 1;
            for (int k = 0; k < size; k++) {
                so &= townAt(k);
            }
            return so;
        }

        int soInSome() {
            int so = 0;
            for (int k = 0; k < size; k++) {
                so |= townAt(k);
            }
            return so;
        }

        int howManyHave(int c) {
            int many = 0;
            for (int k = 0; k < size; k++) {
                many += townAt(k) >> c & 1;
            }
            return many;
        }

        /** How many LOOKS tell FEW worlds apart: of each set, the smaller sets first. */
        int looksAtWorst(int choices) {
            int every = (1 << Math.min(size, FEW)) - 1;
            for (int set = 1; set <= every; set++) {
                setNumber(looksBySet, set, looksFor(set, choices));
            }
            return numberAt(looksBySet, every);
        }

        private int looksFor(int set, int choices) {
            if (Integer.bitCount(set) <= 1) {
                return 0;
            }
            int least = MOST_CHOICES;
            for (int c = 0; c < choices; c++) {
                int so = set & whichHave(c);
                if (so != 0 && so != set) {
                    int worse = Math.max(numberAt(looksBySet, so), numberAt(looksBySet, set & ~so));
                    least = Math.min(least, 1 + worse);
                }
            }
            return least;
        }

        private int whichHave(int c) {
            int which = 0;
            for (int k = 0; k < size && k < FEW; k++) {
                which |= (townAt(k) >> c & 1) << k;
            }
            return which;
        }
    }

    /** A STREET between two PLACES. */
    private static final class Street {
        static final int ALWAYS = -1;

        final int u, v, choice, takes;

        Street(int u, int v, int choice, int takes) {
            this.u = u;
            this.v = v;
            this.choice = choice;
            this.takes = takes;
        }

        boolean isOpenIn(int town) {
            return choice == ALWAYS || hasChoice(town, choice);
        }

        boolean touches(int place) {
            return place == u || place == v;
        }

        int otherEnd(int place) {
            return place == u ? v : u;
        }
    }

    /** The STREETS there are, and ways by those of them that are open (bits). */
    private static final class Streets {
        private final Street[] list = new Street[MOST_STREETS];
        int size;
        /** How long it takes from each place to where one goes, as last measured. */
        private final int[] left = new int[PLACES];

        Street streetAt(int s) {
            return s >= 0 && s < size && s < list.length ? list[s] : null;
        }

        /** The number of a new street; FULL, if there can be no more. */
        int add(int u, int v, int choice, int takes) {
            if (size < 0 || size >= list.length) {
                return FULL;
            }
            list[size] = new Street(u, v, choice, takes);
            size++;
            return size - 1;
        }

        int openIn(int town) {
            int open = 0;
            for (int s = 0; s < size; s++) {
                Street street = streetAt(s);
                if (street != null && street.isOpenIn(town)) {
                    open |= 1 << s;
                }
            }
            return open;
        }

        int touching(int place) {
            int which = 0;
            for (int s = 0; s < size; s++) {
                Street street = streetAt(s);
                if (street != null && street.touches(place)) {
                    which |= 1 << s;
                }
            }
            return which;
        }

        int shortest(int two, int open) {
            measure(goalOf(two), open);
            int time = numberAt(left, startOf(two));
            return time >= NEVER ? NOTHING : time;
        }

        private void measure(int goal, int open) {
            Arrays.fill(left, NEVER);
            setNumber(left, goal, 0);
            boolean changed = true;
            for (int round = 0; round < PLACES && changed; round++) {
                changed = false;
                for (int s = 0; s < size; s++) {
                    Street street = streetAt(s);
                    if (street != null && (open >> s & 1) == 1) {
                        changed |= shorten(street.u, street.v, street.takes);
                        changed |= shorten(street.v, street.u, street.takes);
                    }
                }
            }
        }

        private boolean shorten(int place, int over, int takes) {
            int time = numberAt(left, over) + takes;
            if (time >= numberAt(left, place)) {
                return false;
            }
            setNumber(left, place, time);
            return true;
        }

        /** The first STREET of a shortest WAY, as last measured. */
        private int firstOfShortest(int place, int open) {
            for (int s = 0; s < size; s++) {
                Street street = streetAt(s);
                if (street != null && (open >> s & 1) == 1 && street.touches(place)
                        && street.takes + numberAt(left, street.otherEnd(place)) == numberAt(left, place)) {
                    return s;
                }
            }
            return NOTHING;
        }

        /** How long one takes BY A MAP that says one town, in another. */
        int walk(int two, int says, int town) {
            int goal = goalOf(two);
            int place = startOf(two);
            int open = openIn(says);
            int time = 0;
            measure(goal, open);
            // One finds each street shut once at most, and passes each place once at most in between.
            for (int moves = 0; moves < (MOST_STREETS + 1) * PLACES && place != goal; moves++) {
                int s = firstOfShortest(place, open);
                Street street = streetAt(s);
                if (street == null) {
                    return NOTHING;
                }
                if (street.isOpenIn(town)) {
                    time += street.takes;
                    place = street.otherEnd(place);
                } else {
                    open &= ~(1 << s);
                    measure(goal, open);
                }
            }
            return place == goal ? time : NOTHING;
        }
    }

    /** AT WORST: how long it takes to one place from each, by each set of WORLDS that may be right. */
    private static final class AtWorst {
        private static final int SETS = 1 << Worlds.FEW;

        private final int[] longest = new int[PLACES * SETS];
        private final int[] openByWorld = new int[Worlds.FEW];
        private final int[] streetsAt = new int[PLACES];
        private final Streets streets;
        private int everyWorld;
        private int goal;

        AtWorst(Streets streets) {
            this.streets = streets;
        }

        /** What one sees only makes a set smaller, so the smaller sets are settled first. */
        void study(Worlds worlds, int goalPlace) {
            goal = goalPlace;
            everyWorld = (1 << Math.min(worlds.size, Worlds.FEW)) - 1;
            for (int w = 0; w < openByWorld.length; w++) {
                openByWorld[w] = streets.openIn(Math.max(0, worlds.townAt(w)));
            }
            for (int place = 0; place < streetsAt.length; place++) {
                streetsAt[place] = streets.touching(place);
            }
            for (int set = 1; set <= everyWorld; set++) {
                settle(set);
            }
        }

        int longestFrom(int start) {
            int time = longestFor(start, everyWorld);
            return time >= NEVER ? NOTHING : time;
        }

        /** The STREET that one takes first if one world is the right one. */
        int firstStreet(int start, int world) {
            int set = lookingLike(world, start, everyWorld);
            int time = longestFor(start, set);
            if (start == goal || time >= NEVER) {
                return NOTHING;
            }
            int open = openAt(start, world);
            for (int s = 0; s < streets.size; s++) {
                Street street = streets.streetAt(s);
                if (street != null && (open >> s & 1) == 1
                        && street.takes + longestFor(street.otherEnd(start), set) == time) {
                    return s;
                }
            }
            return NOTHING;
        }

        private int longestFor(int place, int set) {
            return numberAt(longest, place * SETS + set);
        }

        private int openAt(int place, int world) {
            return numberAt(openByWorld, world) & numberAt(streetsAt, place);
        }

        /** The WORLDS of a set that one can't tell from one world by what one sees at a place. */
        private int lookingLike(int world, int place, int set) {
            int alike = 0;
            for (int w = 0; w < Worlds.FEW; w++) {
                if ((set >> w & 1) == 1 && openAt(place, w) == openAt(place, world)) {
                    alike |= 1 << w;
                }
            }
            return alike;
        }

        private void settle(int set) {
            int world = firstOf(set);
            int decided = 0;
            for (int place = 0; place < PLACES; place++) {
                boolean tells = lookingLike(world, place, set) != set;
                int time = place == goal ? 0 : tells ? worstOfParts(place, set) : NEVER;
                setNumber(longest, place * SETS + set, time);
                if (place == goal || tells) {
                    decided |= 1 << place;
                }
            }
            boolean changed = true;
            for (int round = 0; round < PLACES && changed; round++) {
                changed = shortenAll(set, world, decided);
            }
        }

        private int worstOfParts(int place, int set) {
            int worst = 0;
            for (int w = 0; w < Worlds.FEW; w++) {
                if ((set >> w & 1) == 1) {
                    worst = Math.max(worst, longestFor(place, lookingLike(w, place, set)));
                }
            }
            return worst;
        }

        /** Where a set shows nothing new, one goes on by any open street and still knows only the set. */
        private boolean shortenAll(int set, int world, int decided) {
            boolean changed = false;
            for (int s = 0; s < streets.size; s++) {
                Street street = streets.streetAt(s);
                if (street != null && (numberAt(openByWorld, world) >> s & 1) == 1) {
                    changed |= (decided >> street.u & 1) == 0 && shorten(street, street.u, set);
                    changed |= (decided >> street.v & 1) == 0 && shorten(street, street.v, set);
                }
            }
            return changed;
        }

        private boolean shorten(Street street, int place, int set) {
            int time = street.takes + longestFor(street.otherEnd(place), set);
            if (time >= longestFor(place, set)) {
                return false;
            }
            setNumber(longest, place * SETS + set, time);
            return true;
        }
    }

    /** A TEXT that was read: its three E as code in the order in which it is worked off. */
    private static final class Text {
        // A number from 0 on stands for itself; what is below 0 works on the numbers that came last.
        static final int NEGATE = -1, NOT = -2, TIMES = -3, PLUS = -4, MINUS = -5;
        static final int LESS = -6, EQUAL = -7, AND = -8, OR = -9;
        /** The names a b c d far worlds are this, less 0 .. 5. */
        static final int NAMES = -20;
        private static final int FAR = NAMES - 4, WORLDS = NAMES - 5;

        private final int[] mayCode;
        private final int[] harmCode;
        private final int[] priceCode;
        private final int[] stack = new int[Reader.MOST_BYTES];
        private int height;
        /** Whether the law allows a town depends on a b c d alone: a bit for each of their 16 values. */
        private final int allowed;

        Text(int[] mayCode, int[] harmCode, int[] priceCode) {
            this.mayCode = mayCode;
            this.harmCode = harmCode;
            this.priceCode = priceCode;
            int bits = 0;
            for (int abcd = 0; abcd < 16; abcd++) {
                bits |= valueOf(mayCode, abcd, 0, 0) != 0 ? 1 << abcd : 0;
            }
            allowed = bits;
        }

        boolean allows(int town) {
            return (allowed >> (town & 15) & 1) == 1;
        }

        int harmOf(int town, int far) {
            return valueOf(harmCode, town, far, 0);
        }

        int priceOf(int town, int worlds) {
            return valueOf(priceCode, town, 0, worlds);
        }

        private int valueOf(int[] code, int town, int far, int worlds) {
            height = 0;
            for (int i = 0; i < code.length; i++) {
                int op = code[i];
                if (op >= 0) {
                    push(op);
                } else if (op <= NAMES) {
                    push(op == FAR ? far : op == WORLDS ? worlds : town >> NAMES - op & 1);
                } else if (op == NEGATE) {
                    push(-pop());
                } else if (op == NOT) {
                    push(pop() == 0 ? 1 : 0);
                } else {
                    int right = pop();
                    push(joined(op, pop(), right));
                }
            }
            return pop();
        }

        private static int joined(int op, int left, int right) {
            switch (op) {
                case TIMES: return left * right;
                case PLUS: return left + right;
                case MINUS: return left - right;
                case LESS: return left < right ? 1 : 0;
                case EQUAL: return left == right ? 1 : 0;
                case AND: return left != 0 && right != 0 ? 1 : 0;
                default: return left != 0 || right != 0 ? 1 : 0;
            }
        }

        private void push(int number) {
            if (height >= 0 && height < stack.length) {
                stack[height] = number;
                height++;
            }
        }

        private int pop() {
            if (height < 1 || height > stack.length) {
                return 0;
            }
            height--;
            return stack[height];
        }
    }

    /** THE TAPE, and how a TEXT is read from it. */
    private static final class Reader {
        static final int MOST_BYTES = 160;
        private static final int MOST_OPEN = 5, MOST_DIGITS = 4;
        private static final String SIGNS = "();+-*<=";
        // Tokens: a sign is its byte; the others stand beyond all bytes.
        private static final int END = 256, BROKEN = 257, NUMBER = 258;
        private static final int MAY = 300, HARM = 301, PRICE = 302, OR = 303, AND = 304, NOT = 305;
        private static final int FIRST_NAME = 306, LAST_NAME = 311;

        private final int[] bytes = new int[MOST_BYTES];
        int size;
        /** The place of the fault that was found; below 0, if none was. */
        int fault;
        private int at;
        private int token;
        private int tokenAt;
        private int number;
        private final int[] code = new int[MOST_BYTES];
        private int codeSize;

        void add(int b) {
            if (size >= 0 && size < bytes.length) {
                bytes[size] = b;
                size++;
            }
        }

        void clear() {
            size = 0;
        }

        /** The TEXT on the tape; null, if there is a fault. */
        Text readText() {
            at = 0;
            fault = NOTHING;
            advance();
            int[] mayCode = clause(MAY);
            int[] harmCode = clause(HARM);
            int[] priceCode = clause(PRICE);
            if (token != END) {
                fail();
            }
            return fault >= 0 ? null : new Text(mayCode, harmCode, priceCode);
        }

        private int[] clause(int key) {
            codeSize = 0;
            accept(key);
            either(0);
            accept(';');
            return Arrays.copyOf(code, Math.max(0, Math.min(codeSize, MOST_BYTES)));
        }

        private void accept(int wanted) {
            if (token == wanted) {
                advance();
            } else {
                fail();
            }
        }

        /** The first fault counts; no token can stand behind it, so that all reading ends. */
        private void fail() {
            if (fault < 0) {
                fault = tokenAt;
            }
            token = BROKEN;
        }

        private void emit(int op) {
            if (codeSize >= 0 && codeSize < code.length) {
                code[codeSize] = op;
                codeSize++;
            }
        }

        private void either(int open) {
            both(open);
            for (int i = 0; i < MOST_BYTES && token == OR; i++) {
                advance();
                both(open);
                emit(Text.OR);
            }
        }

        private void both(int open) {
            negation(open);
            for (int i = 0; i < MOST_BYTES && token == AND; i++) {
                advance();
                negation(open);
                emit(Text.AND);
            }
        }

        private void negation(int open) {
            if (token == NOT && open < MOST_OPEN) {
                advance();
                negation(open + 1);
                emit(Text.NOT);
                return;
            }
            sum(open);
            if (token == '<' || token == '=') {
                int op = token == '<' ? Text.LESS : Text.EQUAL;
                advance();
                sum(open);
                emit(op);
            }
        }

        private void sum(int open) {
            product(open);
            for (int i = 0; i < MOST_BYTES && (token == '+' || token == '-'); i++) {
                int op = token == '+' ? Text.PLUS : Text.MINUS;
                advance();
                product(open);
                emit(op);
            }
        }

        private void product(int open) {
            single(open);
            for (int i = 0; i < MOST_BYTES && token == '*'; i++) {
                advance();
                single(open);
                emit(Text.TIMES);
            }
        }

        private void single(int open) {
            if (token == NUMBER) {
                emit(number);
                advance();
            } else if (token >= FIRST_NAME && token <= LAST_NAME) {
                emit(Text.NAMES - (token - FIRST_NAME));
                advance();
            } else if (token == '-' && open < MOST_OPEN) {
                advance();
                single(open + 1);
                emit(Text.NEGATE);
            } else if (token == '(' && open < MOST_OPEN) {
                advance();
                either(open + 1);
                accept(')');
            } else {
                fail();
            }
        }

        private void advance() {
            while (at < size && (byteAt(at) == ' ' || byteAt(at) == '\n')) {
                at++;
            }
            tokenAt = at;
            int b = byteAt(at);
            if (b == END) {
                token = END;
            } else if (isLetter(b)) {
                readWord();
            } else if (isDigit(b)) {
                readNumber();
            } else {
                readSign(b);
            }
        }

        private int byteAt(int place) {
            return place >= 0 && place < size && place < bytes.length ? bytes[place] : END;
        }

        private static boolean isLetter(int b) {
            return b >= 'a' && b <= 'z';
        }

        private static boolean isDigit(int b) {
            return b >= '0' && b <= '9';
        }

        private void readWord() {
            while (at < size && isLetter(byteAt(at))) {
                at++;
            }
            for (int word = MAY; word <= LAST_NAME; word++) {
                if (standsThere(spelling(word))) {
                    token = word;
                    return;
                }
            }
            fail();
        }

        private boolean standsThere(String word) {
            if (word.length() != at - tokenAt) {
                return false;
            }
            for (int i = 0; i < word.length(); i++) {
                int place = tokenAt + i;
                if (place < 0 || place >= bytes.length || bytes[place] != word.charAt(i)) {
                    return false;
                }
            }
            return true;
        }

        private static String spelling(int word) {
            switch (word) {
                case MAY: return "may";
                case HARM: return "harm";
                case PRICE: return "price";
                case OR: return "or";
                case AND: return "and";
                case NOT: return "not";
                case FIRST_NAME: return "a";
                case FIRST_NAME + 1: return "b";
                case FIRST_NAME + 2: return "c";
                case FIRST_NAME + 3: return "d";
                case FIRST_NAME + 4: return "far";
                default: return "worlds";
            }
        }

        private void readNumber() {
            number = 0;
            while (at < size && isDigit(byteAt(at))) {
                number = number * 10 + byteAt(at) - '0';
                at++;
            }
            token = NUMBER;
            if (at - tokenAt > MOST_DIGITS) {
                fail();
            }
        }

        private void readSign(int b) {
            if (SIGNS.indexOf((char) b) < 0) {
                fail();
                return;
            }
            token = b;
            at++;
        }
    }

    /** AN IMAGE: what it keeps, as it was. */
    private static final class Image {
        boolean isThere;
        int seen, seenSo, law, mapCount;
        final int[] prices = new int[MOST_MAPS];
    }

    /** A SHEET: a row of numbers of a sort, or missing. */
    private static final class Sheet {
        static final int MISSING = -1, BYTES = 0, SHORTS = 1, INTS = 2, MOST_NUMBERS = 40;

        int sort = MISSING;
        private int size;
        final int[] numbers = new int[MOST_NUMBERS];

        void become(int newSort, int n) {
            sort = newSort;
            size = n;
            Arrays.fill(numbers, 0);
        }

        /** Whether n places from i on (n is 0 at least) all lie in the row. */
        boolean spans(int i, int n) {
            return i >= 0 && i <= size - n;
        }

        void write(int i, int v) {
            setNumber(numbers, i, sort == BYTES ? (byte) v : sort == SHORTS ? (short) v : v);
        }

        int numberAtPlace(int i) {
            return numberAt(numbers, i);
        }
    }
}
