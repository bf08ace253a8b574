import java.util.ArrayList;
import java.util.Arrays;
import java.util.List;

/** The document once more, in the slowest and plainest way: what EveryMapWrong is held against. */
final class Naive {
    static final int NONE = -1, BAD = -2, STATE = -3, FULL = -4;
    private static final int INF = 1 << 28;

    private static final class M {
        int kind, says, mask, more, price = 1;
    }

    private static final class S {
        int u, v, c, takes;
    }

    private int n = 6;
    private final int[] seen = new int[9];
    private final List<M> maps = new ArrayList<>();
    private final List<S> streets = new ArrayList<>();
    private final List<Integer> goers = new ArrayList<>();
    private final List<List<List<String>>> texts = new ArrayList<>();
    private int law = 0;
    private String tape = "";
    private int[] imageSeen = null;
    private int imageLaw;
    private List<Integer> imagePrices;
    private final int[][] sheets = new int[4][];
    private final int[] sorts = {-1, -1, -1, -1};

    Naive() {
        Arrays.fill(seen, -1);
        texts.add(Law.read("may 1 ; harm far ; price 3 + worlds ;").clauses);
    }

    private boolean town_(int t) {
        return t >= 0 && t < Math.pow(2, n);
    }

    private static boolean bit(int t, int c) {
        return (t & (int) Math.pow(2, c)) != 0;
    }

    private static int differ(int a, int b) {
        int many = 0;
        for (int c = 0; c < 9; c++) {
            if (bit(a, c) != bit(b, c)) {
                many++;
            }
        }
        return many;
    }

    private static boolean two_(int two) {
        return two >= 0 && two <= 55 && two % 10 <= 5;
    }

    private boolean agrees(int m, int t) {
        M map = maps.get(m);
        int slips = 0;
        List<Integer> where = new ArrayList<>();
        for (int c = 0; c < n; c++) {
            boolean counts = map.kind != 3 || bit(map.mask, c);
            if (counts && bit(map.says, c) != bit(t, c)) {
                slips++;
                where.add(c);
            }
        }
        switch (map.kind) {
            case 0: return slips == 1;
            case 1: return differ(map.says, maps.get(map.more).says) == 1 && agrees(map.more, t);
            case 2: case 3: return slips < 2;
            case 4: return slips < map.more + 2;
            default: return slips == 2 && where.get(1) == where.get(0) + 1
                && bit(t, where.get(0)) != bit(t, where.get(1));
        }
    }

    private int eval(int clause, int t, int far, int worlds) {
        return Law.eval(texts.get(law).get(clause), t, far, worlds);
    }

    private boolean right(int t) {
        for (int c = 0; c < n; c++) {
            if (seen[c] >= 0 && bit(t, c) != (seen[c] == 1)) {
                return false;
            }
        }
        return eval(0, t, 0, 0) != 0;
    }

    private List<Integer> by(int set) {
        List<Integer> towns = new ArrayList<>();
        for (int t = 0; t < Math.pow(2, n); t++) {
            boolean in = right(t);
            for (int m = 0; in && m < maps.size(); m++) {
                in = !bit(set, m) || agrees(m, t);
            }
            if (in) {
                towns.add(t);
            }
        }
        return towns;
    }

    private int all() {
        return (int) Math.pow(2, maps.size()) - 1;
    }

    int town(int k) {
        if (k < 1 || k > 9) return BAD;
        if (!maps.isEmpty() || !streets.isEmpty()) return STATE;
        int was = n;
        n = k;
        Arrays.fill(seen, -1);
        imageSeen = null;
        return was;
    }

    int count(int what) {
        int bits = 0, so = 0;
        for (int c = 0; c < 9; c++) {
            if (seen[c] >= 0) bits += Math.pow(2, c);
            if (seen[c] == 1) so += Math.pow(2, c);
        }
        int[] counts = {n, maps.size(), streets.size(), goers.size(), texts.size(), law, tape.length(), bits, so};
        return what >= 0 && what < counts.length ? counts[what] : BAD;
    }

    int feed(long w, int k) {
        if (k < 1 || k > 8) return BAD;
        if (tape.length() + k > 160) return FULL;
        String more = "";
        for (int i = 0; i < k; i++) {
            more = (char) (w & 255) + more;
            w >>>= 8;
        }
        tape += more;
        return tape.length();
    }

    int text() {
        if (texts.size() == 6) return FULL;
        Law read = Law.read(tape);
        tape = "";
        if (read.fault >= 0) return -100 - read.fault;
        texts.add(read.clauses);
        return texts.size() - 1;
    }

    int force(int t) {
        if (t < 0 || t >= texts.size()) return BAD;
        int was = law;
        law = t;
        return was;
    }

    int may(int t) {
        if (!town_(t)) return BAD;
        return eval(0, t, 0, 0) != 0 ? 1 : 0;
    }

    int map(int kind, int says, int mask, int more) {
        if (kind < 0 || kind > 5 || !town_(says) || !town_(mask) || more < 0 || more > 9) return BAD;
        if (kind == 1 && more >= maps.size()) return BAD;
        if (maps.size() == 8) return FULL;
        M m = new M();
        m.kind = kind;
        m.says = says;
        m.mask = mask;
        m.more = more;
        maps.add(m);
        return maps.size() - 1;
    }

    int drop() {
        if (maps.isEmpty()) return STATE;
        maps.remove(maps.size() - 1);
        if (imageSeen != null && imagePrices.size() > maps.size()) imageSeen = null;
        return maps.size();
    }

    private boolean map_(int m) {
        return m >= 0 && m < maps.size();
    }

    int price(int m, int v) {
        if (!map_(m)) return NONE;
        if (v < 0 || v > 99) return BAD;
        int was = maps.get(m).price;
        maps.get(m).price = v;
        return was;
    }

    int told(int m, int what) {
        if (!map_(m)) return -5;
        M map = maps.get(m);
        int[] row = {map.kind, map.says, map.mask, map.more, map.price};
        return what < 0 || what > 4 ? -7 : row[what];
    }

    int slips(int m, int t, int what) {
        if (!map_(m)) return -5;
        if (!town_(t) || what < 0 || what > 1) return -7;
        if (what == 1) return agrees(m, t) ? 1 : 0;
        int bits = 0;
        for (int c = 0; c < n; c++) {
            boolean counts = maps.get(m).kind != 3 || bit(maps.get(m).mask, c);
            if (counts && bit(maps.get(m).says, c) != bit(t, c)) bits += Math.pow(2, c);
        }
        return bits;
    }

    int look(int c, int v) {
        if (c < 0 || c >= n) return -5;
        if (v < -1 || v > 1) return -7;
        int was = seen[c];
        seen[c] = v;
        return was;
    }

    int worlds(int set) {
        if (set < 0 || set > all()) return BAD;
        return by(set).size();
    }

    int world(int k) {
        List<Integer> towns = by(all());
        return k >= 0 && k < towns.size() ? towns.get(k) : -1;
    }

    int sure(int what) {
        if (what < 0 || what > 2) return BAD;
        List<Integer> towns = by(all());
        if (towns.isEmpty()) return STATE;
        int[] bits = new int[3];
        for (int c = 0; c < n; c++) {
            int so = so(towns, c);
            bits[so == towns.size() ? 0 : so == 0 ? 1 : 2] += Math.pow(2, c);
        }
        return bits[what];
    }

    private static int so(List<Integer> towns, int c) {
        int many = 0;
        for (int t : towns) {
            if (bit(t, c)) many++;
        }
        return many;
    }

    /** All sets of maps, those with fewer maps first, of like ones the least first. */
    private List<Integer> setsByMany() {
        List<Integer> sets = new ArrayList<>();
        for (int many = 0; many <= maps.size(); many++) {
            for (int set = 0; set <= all(); set++) {
                if (differ(set, 0) == many) sets.add(set);
            }
        }
        return sets;
    }

    int none() {
        for (int set : setsByMany()) {
            if (by(set).isEmpty()) return set;
        }
        return -1;
    }

    int judge(int t) {
        if (!town_(t)) return BAD;
        if (!right(t)) return 99;
        for (int m = 0; m < maps.size(); m++) {
            if (!agrees(m, t)) return m;
        }
        return -1;
    }

    int street(int u, int v, int c, int takes) {
        if (u < 0 || u > 5 || v < 0 || v > 5 || u == v || c < -1 || c >= n || takes < 1 || takes > 99) return BAD;
        if (streets.size() == 12) return FULL;
        S s = new S();
        s.u = u;
        s.v = v;
        s.c = c;
        s.takes = takes;
        streets.add(s);
        return streets.size() - 1;
    }

    private boolean[] open(int t) {
        boolean[] open = new boolean[streets.size()];
        for (int s = 0; s < open.length; s++) {
            open[s] = streets.get(s).c == -1 || bit(t, streets.get(s).c);
        }
        return open;
    }

    private int[][] times(boolean[] open) {
        int[][] d = new int[6][6];
        for (int i = 0; i < 6; i++) {
            Arrays.fill(d[i], INF);
            d[i][i] = 0;
        }
        for (int s = 0; s < open.length; s++) {
            S street = streets.get(s);
            if (open[s]) {
                d[street.u][street.v] = Math.min(d[street.u][street.v], street.takes);
                d[street.v][street.u] = Math.min(d[street.v][street.u], street.takes);
            }
        }
        for (int k = 0; k < 6; k++) {
            for (int i = 0; i < 6; i++) {
                for (int j = 0; j < 6; j++) {
                    d[i][j] = Math.min(d[i][j], d[i][k] + d[k][j]);
                }
            }
        }
        return d;
    }

    private int shortest(int two, boolean[] open) {
        int d = times(open)[two / 10][two % 10];
        return d >= INF ? -1 : d;
    }

    int way(int two, int t) {
        if (!two_(two)) return -5;
        if (!town_(t)) return -7;
        return shortest(two, open(t));
    }

    int safe(int two) {
        if (!two_(two)) return -5;
        List<Integer> towns = by(all());
        if (towns.isEmpty()) return STATE;
        boolean[] open = new boolean[streets.size()];
        Arrays.fill(open, true);
        for (int t : towns) {
            for (int s = 0; s < open.length; s++) open[s] &= open(t)[s];
        }
        return shortest(two, open);
    }

    private boolean sameAt(int p, int t, int other) {
        for (S s : streets) {
            if ((s.u == p || s.v == p) && s.c >= 0 && bit(t, s.c) != bit(other, s.c)) return false;
        }
        return true;
    }

    /** At worst within so many moves, by place and by set of worlds (bits of the list). */
    private int[][] atWorst(List<Integer> towns, int goal) {
        int sets = (int) Math.pow(2, towns.size());
        int[][] worst = new int[6][sets];
        for (int p = 0; p < 6; p++) Arrays.fill(worst[p], p == goal ? 0 : INF);
        boolean same = false;
        for (int moves = 0; moves < 50 && !same; moves++) {
            int[][] next = new int[6][sets];
            for (int p = 0; p < 6; p++) {
                for (int set = 1; set < sets; set++) {
                    for (int w = 0; w < towns.size() && p != goal; w++) {
                        if (bit(set, w)) {
                            int alike = alike(towns, p, set, w);
                            int least = INF;
                            for (int s = 0; s < streets.size(); s++) {
                                S street = streets.get(s);
                                if ((street.u == p || street.v == p) && open(towns.get(w))[s]) {
                                    int to = street.u + street.v - p;
                                    least = Math.min(least, street.takes + worst[to][alike]);
                                }
                            }
                            next[p][set] = Math.max(next[p][set], least);
                        }
                    }
                }
            }
            same = Arrays.deepEquals(worst, next);
            worst = next;
        }
        return worst;
    }

    private int alike(List<Integer> towns, int p, int set, int w) {
        int alike = 0;
        for (int k = 0; k < towns.size(); k++) {
            if (bit(set, k) && sameAt(p, towns.get(w), towns.get(k))) alike += Math.pow(2, k);
        }
        return alike;
    }

    int soon(int two) {
        if (!two_(two)) return -5;
        List<Integer> towns = by(all());
        if (towns.isEmpty() || towns.size() > 7) return STATE;
        int time = atWorst(towns, two % 10)[two / 10][(int) Math.pow(2, towns.size()) - 1];
        return time >= INF ? -1 : time;
    }

    int step(int two, int t) {
        if (!two_(two)) return -5;
        if (!town_(t)) return -7;
        List<Integer> towns = by(all());
        if (towns.isEmpty() || towns.size() > 7 || !towns.contains(t)) return STATE;
        int p = two / 10;
        if (p == two % 10) return -1;
        int[][] worst = atWorst(towns, two % 10);
        int alike = alike(towns, p, (int) Math.pow(2, towns.size()) - 1, towns.indexOf(t));
        int best = -1, least = INF;
        for (int s = 0; s < streets.size(); s++) {
            S street = streets.get(s);
            if ((street.u == p || street.v == p) && open(t)[s]) {
                int time = street.takes + worst[street.u + street.v - p][alike];
                if (time < least) {
                    best = s;
                    least = time;
                }
            }
        }
        return best;
    }

    private int walk(int says, int two, int t) {
        boolean[] open = open(says);
        int p = two / 10, goal = two % 10, time = 0;
        while (p != goal) {
            int[][] d = times(open);
            if (d[p][goal] >= INF) return -1;
            int first = -1;
            for (int s = streets.size() - 1; s >= 0; s--) {
                S street = streets.get(s);
                if (open[s] && (street.u == p || street.v == p)
                        && street.takes + d[street.u + street.v - p][goal] == d[p][goal]) first = s;
            }
            if (open(t)[first]) {
                time += streets.get(first).takes;
                p = streets.get(first).u + streets.get(first).v - p;
            } else {
                open[first] = false;
            }
        }
        return time;
    }

    int trip(int m, int two, int t) {
        if (!map_(m) || !two_(two)) return -5;
        if (!town_(t)) return -7;
        return walk(maps.get(m).says, two, t);
    }

    int goer(int two) {
        if (!two_(two)) return BAD;
        if (goers.size() == 6) return FULL;
        goers.add(two);
        return goers.size() - 1;
    }

    private int flip(int t, int c) {
        int bit = (int) Math.pow(2, c);
        return bit(t, c) ? t - bit : t + bit;
    }

    private int harmOf(int g, int t, int c) {
        int two = goers.get(g);
        int shortest = shortest(two, open(t));
        if (shortest < 0) return 0;
        int walked = walk(flip(t, c), two, t);
        int harm = eval(1, t, walked < 0 ? 99 : walked - shortest, 0);
        return harm < 0 ? 0 : harm > 999 ? 999 : harm;
    }

    private int harms(int t, int c) {
        int sum = 0;
        for (int g = 0; g < goers.size(); g++) sum += harmOf(g, t, c);
        return sum;
    }

    int harm(int t, int c) {
        if (!town_(t)) return BAD;
        if (c < 0 || c >= n) return -5;
        return harms(t, c);
    }

    int put(int t, int what) {
        if (!town_(t) || what < 0 || what > 1) return BAD;
        int best = n - 1;
        for (int c = n - 1; c >= 0; c--) {
            if (harms(t, c) <= harms(t, best)) best = c;
        }
        return what == 0 ? best : harms(t, best);
    }

    int trick(int t, int g, int what) {
        if (!town_(t) || what < 0 || what > 1) return BAD;
        if (g < 0 || g >= goers.size()) return -5;
        int best = n - 1;
        for (int c = n - 1; c >= 0; c--) {
            if (harmOf(g, t, c) >= harmOf(g, t, best)) best = c;
        }
        return what == 0 ? best : harmOf(g, t, best);
    }

    int enough(int c) {
        if (c < 0 || c >= n) return -5;
        if (by(all()).isEmpty()) return STATE;
        for (int set : setsByMany()) {
            List<Integer> towns = by(set);
            if (so(towns, c) == 0 || so(towns, c) == towns.size()) return set;
        }
        return -1;
    }

    int many() {
        for (int set : setsByMany()) {
            if (by(set).size() == by(all()).size()) return set;
        }
        return -1;
    }

    int next(int what) {
        if (what < 0 || what > 1) return BAD;
        List<Integer> towns = by(all());
        if (towns.isEmpty()) return STATE;
        int best = -1, fewest = towns.size();
        for (int c = 0; c < n; c++) {
            int left = Math.max(so(towns, c), towns.size() - so(towns, c));
            if (left < fewest) {
                best = c;
                fewest = left;
            }
        }
        return what == 0 ? best : fewest;
    }

    private int lookAt(List<Integer> towns) {
        if (towns.size() == 1) return 0;
        int least = INF;
        for (int c = 0; c < n; c++) {
            List<Integer> yes = new ArrayList<>(), no = new ArrayList<>();
            for (int t : towns) (bit(t, c) ? yes : no).add(t);
            if (!yes.isEmpty() && !no.isEmpty()) {
                least = Math.min(least, 1 + Math.max(lookAt(yes), lookAt(no)));
            }
        }
        return least;
    }

    int looks() {
        List<Integer> towns = by(all());
        return towns.isEmpty() || towns.size() > 7 ? STATE : lookAt(towns);
    }

    int from(int m) {
        if (!map_(m)) return -5;
        int bits = 0;
        for (int other = 0; other < maps.size(); other++) {
            if (other != m && differ(maps.get(other).says, maps.get(m).says) == 1) bits += Math.pow(2, other);
        }
        return bits;
    }

    /** Rows (map, origin, how much) in the order in which they are drawn. */
    private List<int[]> draw() {
        List<Integer> drawn = new ArrayList<>(List.of(0));
        List<int[]> rows = new ArrayList<>();
        while (drawn.size() < maps.size()) {
            int[] best = null;
            for (int m = 0; m < maps.size(); m++) {
                for (int o = 0; o < maps.size(); o++) {
                    if (!drawn.contains(m) && drawn.contains(o)) {
                        int d = differ(maps.get(m).says, maps.get(o).says);
                        if (best == null || d < best[2]) best = new int[] {m, o, d};
                    }
                }
            }
            drawn.add(best[0]);
            rows.add(best);
        }
        return rows;
    }

    int tree() {
        int sum = 0;
        if (!maps.isEmpty()) {
            for (int[] row : draw()) sum += row[2];
        }
        return sum;
    }

    int drawnFrom(int m) {
        if (!map_(m)) return -5;
        for (int[] row : draw()) {
            if (row[0] == m) return row[1];
        }
        return -1;
    }

    int over(int a, int b, int what) {
        if (!map_(a) || !map_(b)) return -5;
        if (what < 0 || what > 1) return -7;
        int bits = 0, many = 0;
        for (int c = 0; c < n; c++) {
            boolean both = true;
            for (int m : new int[] {a, b}) both &= maps.get(m).kind != 3 || bit(maps.get(m).mask, c);
            if (both && bit(maps.get(a).says, c) != bit(maps.get(b).says, c)) {
                bits += Math.pow(2, c);
                many++;
            }
        }
        return what == 0 ? bits : many;
    }

    int join() {
        int set = 0;
        for (int m = 0; m < maps.size(); m++) {
            if (maps.get(m).kind == 3) set += Math.pow(2, m);
        }
        return by(set).size();
    }

    int years(int m, int what) {
        if (!map_(m)) return -5;
        if (what < 0 || what > 1) return -7;
        List<Integer> years = new ArrayList<>();
        for (int t : by(all() - (int) Math.pow(2, m))) {
            years.add(Math.max(0, differ(maps.get(m).says, t) - 1));
        }
        years.sort(null);
        return years.isEmpty() ? -1 : years.get(what == 0 ? 0 : years.size() - 1);
    }

    private int cost(int set) {
        int sum = 0;
        for (int m = 0; m < maps.size(); m++) {
            if (bit(set, m)) sum += maps.get(m).price;
        }
        return sum;
    }

    int buy(int coin, int what) {
        if (coin < 0 || coin > 9999 || what < 0 || what > 1) return BAD;
        long best = Long.MAX_VALUE;
        for (int set = 0; set <= all(); set++) {
            if (cost(set) <= coin) best = Math.min(best, by(set).size() * 1000000000L + cost(set) * 1000L + set);
        }
        return what == 0 ? (int) (best % 1000) : (int) (best / 1000000000L);
    }

    int worth(int m) {
        if (!map_(m)) return -5;
        int more = by(all() - (int) Math.pow(2, m)).size() - by(all()).size();
        int worth = eval(2, maps.get(m).says, 0, more);
        return worth < 0 ? 0 : worth > 999 ? 999 : worth;
    }

    int drawn(int seed, int what) {
        if (seed < 0 || seed > 99999 || what < 0 || what > 2) return BAD;
        List<Integer> towns = by(all());
        if (towns.isEmpty()) return STATE;
        java.math.BigInteger lot = java.math.BigInteger.valueOf(seed).add(java.math.BigInteger.ONE);
        java.math.BigInteger factor = java.math.BigInteger.valueOf(48271), mod = java.math.BigInteger.valueOf(2147483647);
        java.math.BigInteger first = lot.multiply(factor).mod(mod), second = first.multiply(factor).mod(mod);
        int t = towns.get(first.mod(java.math.BigInteger.valueOf(towns.size())).intValue());
        int c = second.mod(java.math.BigInteger.valueOf(n)).intValue();
        return what == 0 ? t : what == 1 ? flip(t, c) : c;
    }

    int image() {
        imageSeen = seen.clone();
        imageLaw = law;
        imagePrices = new ArrayList<>();
        for (M m : maps) imagePrices.add(m.price);
        return maps.size();
    }

    int back() {
        if (imageSeen == null) return STATE;
        System.arraycopy(imageSeen, 0, seen, 0, 9);
        law = imageLaw;
        while (maps.size() > imagePrices.size()) maps.remove(maps.size() - 1);
        for (int m = 0; m < maps.size(); m++) maps.get(m).price = imagePrices.get(m);
        return maps.size();
    }

    private static boolean sheet_(int s) {
        return s >= 0 && s <= 3;
    }

    int sheet(int s, int sort, int k) {
        if (!sheet_(s) || sort < -1 || sort > 2) return BAD;
        if (sort >= 0 && k > 40) return BAD;
        if (sort >= 0 && k < 0) return -14;
        sorts[s] = sort;
        sheets[s] = sort < 0 ? null : new int[k];
        return 1;
    }

    int cell(int s, int i, int v) {
        if (!sheet_(s)) return BAD;
        if (sheets[s] == null) return -11;
        if (i < 0 || i >= sheets[s].length) return -12;
        sheets[s][i] = sorts[s] == 0 ? (byte) v : sorts[s] == 1 ? (short) v : v;
        return 1;
    }

    int copy(int s, int i, int other, int j, int k) {
        if (!sheet_(s) || !sheet_(other)) return BAD;
        if (sheets[s] == null || sheets[other] == null) return -11;
        if (sorts[s] != sorts[other]) return -13;
        if (i < 0 || j < 0 || k < 0 || (long) i + k > sheets[s].length || (long) j + k > sheets[other].length) return -12;
        int[] were = sheets[s].clone();
        for (int x = 0; x < k; x++) sheets[other][j + x] = were[i + x];
        return k;
    }

    int mapsBy(int s, int sort, int at, int k) {
        if (!sheet_(s) || sort < 0 || sort > 2 || k < 0 || k > 8) return BAD;
        if (sheets[s] == null) return -11;
        if (sorts[s] != sort) return -13;
        int came = 0;
        for (int x = 0; x < k; x++) {
            long from = at + 4L * x;
            if (from < 0 || from + 3 >= sheets[s].length) return -12;
            int[] row = Arrays.copyOfRange(sheets[s], (int) from, (int) from + 4);
            if (map(row[0], row[1], row[2], row[3]) >= 0) came++;
        }
        return came;
    }

    int taken(int i, int kind) {
        if (kind < 0 || kind > 6) return BAD;
        if (i < 0 || i > 19) return -12;
        if (i < 12) {
            if (i >= streets.size()) return -11;
            return kind == 6 ? streets.get(i).takes : -13;
        }
        int m = i - 12;
        if (m >= maps.size()) return -11;
        int is = maps.get(m).kind;
        boolean fits = kind == 0 || kind == is || kind == 2 && is == 3;
        return kind != 6 && fits ? m : -13;
    }

    /** A text, read by what may stand next, not by descent; its E are worked off by splitting them. */
    static final class Law {
        final List<List<String>> clauses = new ArrayList<>();
        int fault = -1;

        private static final List<String> NAMES = List.of("a", "b", "c", "d", "far", "worlds");

        /** The token at a place: what stands there; "!" if none can begin there, "" at the end. */
        private static String tokenAt(String tape, int at) {
            if (at >= tape.length()) return "";
            int end = at;
            while (end < tape.length() && tape.charAt(end) >= 'a' && tape.charAt(end) <= 'z') end++;
            if (end > at) return tape.substring(at, end);
            while (end < tape.length() && tape.charAt(end) >= '0' && tape.charAt(end) <= '9') end++;
            if (end > at) return tape.substring(at, end);
            return "();+-*<=".indexOf(tape.charAt(at)) >= 0 ? tape.substring(at, at + 1) : "!";
        }

        private static boolean isNumber(String token) {
            return !token.isEmpty() && token.charAt(0) >= '0' && token.charAt(0) <= '9';
        }

        static Law read(String tape) {
            Law law = new Law();
            String[] keys = {"may", "harm", "price"};
            // Frames, one for each open ( and one below: {nots, minuses, whether compared}.
            List<int[]> frames = new ArrayList<>();
            String state = "key";
            int at = 0;
            while (true) {
                while (at < tape.length() && (tape.charAt(at) == 32 || tape.charAt(at) == 10)) at++;
                String token = tokenAt(tape, at);
                int[] frame = frames.isEmpty() ? null : frames.get(frames.size() - 1);
                int open = frames.size() - 1;
                for (int[] f : frames) open += f[0] + f[1];
                String next = null;
                if (state.equals("key")) {
                    if (law.clauses.size() == 3) {
                        if (token.isEmpty()) return law;
                    } else if (token.equals(keys[law.clauses.size()])) {
                        next = "not or one";
                        frames.clear();
                        frames.add(new int[3]);
                        law.clauses.add(new ArrayList<>());
                    }
                } else if (state.equals("behind")) {
                    if (token.equals("+") || token.equals("-") || token.equals("*")) {
                        next = "one";
                    } else if ((token.equals("<") || token.equals("=")) && frame[2] == 0) {
                        frame[2] = 1;
                        next = "one";
                    } else if (token.equals("and") || token.equals("or")) {
                        frame[0] = 0;
                        frame[2] = 0;
                        next = "not or one";
                    } else if (token.equals(")") && frames.size() > 1) {
                        frames.remove(frames.size() - 1);
                        frames.get(frames.size() - 1)[1] = 0;
                        next = "behind";
                    } else if (token.equals(";") && frames.size() == 1) {
                        next = "key";
                    }
                } else if (NAMES.contains(token) || isNumber(token) && token.length() <= 4) {
                    frame[1] = 0;
                    next = "behind";
                } else if (token.equals("(") && open < 5) {
                    frames.add(new int[3]);
                    next = "not or one";
                } else if (token.equals("-") && open < 5) {
                    frame[1]++;
                    next = "one";
                } else if (token.equals("not") && state.equals("not or one") && open < 5) {
                    frame[0]++;
                    next = "not or one";
                }
                if (next == null) {
                    law.fault = at;
                    return law;
                }
                if (!state.equals("key") && !next.equals("key")) law.clauses.get(law.clauses.size() - 1).add(token);
                state = next;
                at += token.length();
            }
        }

        /** The last place outside of ( ) at which one of some signs stands between two operands; -1: none. */
        private static int last(List<String> e, List<String> signs) {
            int depth = 0;
            for (int i = e.size() - 1; i > 0; i--) {
                String token = e.get(i);
                if (token.equals(")")) depth++;
                if (token.equals("(")) depth--;
                String ahead = e.get(i - 1);
                boolean between = ahead.equals(")") || NAMES.contains(ahead) || isNumber(ahead);
                if (depth == 0 && between && signs.contains(token)) return i;
            }
            return -1;
        }

        static int eval(List<String> e, int t, int far, int worlds) {
            for (List<String> signs : List.of(List.of("or"), List.of("and"))) {
                int i = last(e, signs);
                if (i > 0) return work(e, i, t, far, worlds);
            }
            if (e.get(0).equals("not")) return eval(e.subList(1, e.size()), t, far, worlds) == 0 ? 1 : 0;
            for (List<String> signs : List.of(List.of("<", "="), List.of("+", "-"), List.of("*"))) {
                int i = last(e, signs);
                if (i > 0) return work(e, i, t, far, worlds);
            }
            String first = e.get(0);
            if (first.equals("-")) return -eval(e.subList(1, e.size()), t, far, worlds);
            if (first.equals("(")) return eval(e.subList(1, e.size() - 1), t, far, worlds);
            if (isNumber(first)) return Integer.parseInt(first);
            int name = NAMES.indexOf(first);
            return name == 4 ? far : name == 5 ? worlds : bit(t, name) ? 1 : 0;
        }

        private static int work(List<String> e, int i, int t, int far, int worlds) {
            int left = eval(e.subList(0, i), t, far, worlds);
            int right = eval(e.subList(i + 1, e.size()), t, far, worlds);
            switch (e.get(i)) {
                case "or": return left != 0 || right != 0 ? 1 : 0;
                case "and": return left != 0 && right != 0 ? 1 : 0;
                case "<": return left < right ? 1 : 0;
                case "=": return left == right ? 1 : 0;
                case "+": return left + right;
                case "-": return left - right;
                default: return left * right;
            }
        }
    }
}
