import java.math.BigInteger;
import java.util.ArrayList;
import java.util.Arrays;
import java.util.HashMap;
import java.util.List;
import java.util.Map;

/**
 * The document once more, in the slowest and plainest way: all ways are tried, all deeds are
 * undone by a copy of what was before. It serves only to be compared with SpoonCensus.
 */
final class PlainCensus {
    static final int BAD = -1, FULL = -2, FINDING = -3, STATE = -4, SPENT = -6, NONE = -9;
    private static final String LETTERS = "hmbngs";

    private static final class House implements Cloneable {
        int kind, province, mouths, spoons;

        House twin() {
            House t = new House();
            t.kind = kind;
            t.province = province;
            t.mouths = mouths;
            t.spoons = spoons;
            return t;
        }
    }

    private static final class World {
        List<House> houses = new ArrayList<>();
        Map<String, Integer> debts = new HashMap<>();
        List<int[]> log = new ArrayList<>();

        World twin() {
            World w = new World();
            for (House h : houses) {
                w.houses.add(h.twin());
            }
            w.debts.putAll(debts);
            for (int[] night : log) {
                w.log.add(night.clone());
            }
            return w;
        }
    }

    private record Kept(World world, int law, int tax, int fine) { }

    private record Deed(int sort, World before) { }

    private final int[][] rows = new int[6][];
    private final byte[][] texts = new byte[4][];
    private World world = new World();
    private int law = 0, tax = 1, fine = 0;
    private final Kept[] kept = new Kept[3];
    private final List<Deed> deeds = new ArrayList<>();
    private int asked = 0, finding = 0;
    private final int[] findings = new int[6];
    private BigInteger upper = BigInteger.ZERO, lower = BigInteger.ONE;

    // ---- helpers

    private int found(int f) {
        finding = f;
        findings[f]++;
        return FINDING;
    }

    private int told(int v) {
        asked = v;
        return 1;
    }

    private void fraction(long a, long b) {
        BigInteger x = BigInteger.valueOf(a), y = BigInteger.valueOf(b);
        BigInteger g = x.gcd(y);
        upper = x.divide(g);
        lower = y.divide(g);
    }

    private boolean isRow(int r) {
        return 0 <= r && r <= 5;
    }

    private boolean isText(int t) {
        return 0 <= t && t <= 3;
    }

    private boolean isHouse(int h) {
        return 0 <= h && h < world.houses.size();
    }

    private boolean isProvince(int p) {
        return 0 <= p && p <= 2;
    }

    private int nightNo() {
        return world.log.size();
    }

    private int debtOf(int b, int a) {
        return world.debts.getOrDefault(b + " to " + a, 0);
    }

    private static int steel(int kind, int mouths, int spoons, int night) {
        int asHouse = spoons > mouths ? mouths : spoons;
        switch (kind) {
            case 0: return asHouse;
            case 1: return asHouse == 0 ? 0 : asHouse - 1;
            case 2: case 4: return spoons;
            case 3: return night % 2 == 1 ? 0 : asHouse;
            default: return night % 2 == 1 || night % 3 != 0 ? 0 : asHouse;
        }
    }

    private static int counts(int kind, int mouths, int spoons, int night, int law) {
        if (law == 2 && kind == 5) {
            return mouths;
        }
        return steel(kind, mouths, spoons, night) + (law == 0 && kind == 4 ? 1 : 0);
    }

    private int counts(House h, int byLaw) {
        return counts(h.kind, h.mouths, h.spoons, nightNo(), byLaw);
    }

    private int lie(House h) {
        return counts(h, law) - h.mouths;
    }

    private int sackBy(int p, int byLaw) {
        return world.houses.stream().filter(h -> h.province == p).mapToInt(h -> counts(h, byLaw)).sum();
    }

    private void did(int sort, World before) {
        deeds.add(new Deed(sort, before));
        if (deeds.size() > 60) {
            deeds.remove(0);
        }
    }

    // ---- 1

    int row(int r, int n) {
        if (!isRow(r) || n > 60) {
            return BAD;
        }
        if (n < 0) {
            return found(5);
        }
        rows[r] = new int[n];
        return n;
    }

    int lay(int r, int i, int v) {
        int answer = at(r, i);
        if (answer == 1) {
            rows[r][i] = v;
        }
        return answer;
    }

    int at(int r, int i) {
        if (!isRow(r)) {
            return BAD;
        }
        if (rows[r] == null) {
            return found(1);
        }
        if (i < 0 || i >= rows[r].length) {
            return found(2);
        }
        return told(rows[r][i]);
    }

    int tear(int r) {
        if (!isRow(r)) {
            return BAD;
        }
        if (rows[r] == null) {
            return found(1);
        }
        rows[r] = null;
        return 1;
    }

    int copy(int r, int i, int to, int j, int n) {
        if (!isRow(r) || !isRow(to)) {
            return BAD;
        }
        if (n < 0) {
            return found(5);
        }
        if (rows[r] == null || rows[to] == null) {
            return found(1);
        }
        if (i < 0 || j < 0 || (long) i + n > rows[r].length || (long) j + n > rows[to].length) {
            return found(2);
        }
        int[] taken = Arrays.copyOfRange(rows[r], i, i + n);
        for (int k = 0; k < n; k++) {
            rows[to][j + k] = taken[k];
        }
        return 1;
    }

    int mean(int r) {
        if (!isRow(r)) {
            return BAD;
        }
        if (rows[r] == null) {
            return found(1);
        }
        if (rows[r].length == 0) {
            return found(4);
        }
        BigInteger sum = BigInteger.ZERO;
        for (int v : rows[r]) {
            sum = sum.add(BigInteger.valueOf(v));
        }
        return told(sum.divide(BigInteger.valueOf(rows[r].length)).intValue());
    }

    int text(int t, int n) {
        if (!isText(t) || n > 80) {
            return BAD;
        }
        if (n < 0) {
            return found(5);
        }
        texts[t] = new byte[n];
        Arrays.fill(texts[t], (byte) ' ');
        return n;
    }

    int put(int t, int i, int v) {
        if (!isText(t)) {
            return BAD;
        }
        if (texts[t] == null) {
            return found(1);
        }
        if (i < 0 || i >= texts[t].length) {
            return found(2);
        }
        int was = texts[t][i];
        texts[t][i] = (byte) v;
        return was + 1000;
    }

    private int faultIn(byte[] text, List<House> into) {
        int state = 0;
        House h = null;
        for (int i = 0; i < text.length; i++) {
            char c = (char) (text[i] & 255);
            if (state == 0) {
                if (c == ' ') {
                    continue;
                }
                if (LETTERS.indexOf(c) < 0 || into.size() == 8) {
                    return i;
                }
                h = new House();
                h.kind = LETTERS.indexOf(c);
                state = 1;
                continue;
            }
            int figure = "0123456789".indexOf(c);
            if (figure < 0 || state == 1 && figure > 2) {
                return i;
            }
            if (state == 1) {
                h.province = figure;
            } else if (state == 2) {
                h.mouths = figure;
            } else {
                h.spoons = figure;
                into.add(h);
            }
            state = (state + 1) % 4;
        }
        return state == 0 ? NONE : text.length;
    }

    int fault(int t) {
        if (!isText(t)) {
            return BAD;
        }
        return texts[t] == null ? found(1) : faultIn(texts[t], new ArrayList<>());
    }

    int land(int t) {
        if (!isText(t)) {
            return BAD;
        }
        if (texts[t] == null) {
            return found(1);
        }
        World next = new World();
        if (faultIn(texts[t], next.houses) != NONE) {
            return STATE;
        }
        world = next;
        law = 0;
        tax = 1;
        fine = 0;
        deeds.clear();
        Arrays.fill(kept, null);
        return world.houses.size();
    }

    private int houseTells(int h, int what) {
        House x = world.houses.get(h);
        int sum = 0;
        for (int o = 0; o < world.houses.size(); o++) {
            sum += what == 4 ? debtOf(h, o) : debtOf(o, h);
        }
        return new int[] {x.kind, x.province, x.mouths, x.spoons, sum, sum}[what];
    }

    int house(int h, int what) {
        if (!isHouse(h) || what < 0 || what > 5) {
            return BAD;
        }
        return told(houseTells(h, what));
    }

    int mark(int h, int kind) {
        if (!isHouse(h) || kind < 1 || kind > 5) {
            return BAD;
        }
        House x = world.houses.get(h);
        boolean is = x.kind == kind || kind == 2 && x.kind == 4 || kind == 3 && x.kind == 5;
        if (!is) {
            return found(3);
        }
        switch (kind) {
            case 1: return steel(0, x.mouths, x.spoons, nightNo()) - steel(1, x.mouths, x.spoons, nightNo());
            case 2: return x.spoons - x.mouths;
            case 3: return steel(x.kind, 9, 9, nightNo()) > 0 ? 1 : 0;
            case 4: return counts(x, 1);
            default:
                int in = 0;
                while (steel(5, 1, 1, nightNo() + in) == 0) {
                    in++;
                }
                return in;
        }
    }

    int law(int v) {
        if (v < 0 || v > 2) {
            return BAD;
        }
        int was = law;
        law = v;
        return was;
    }

    // ---- 2

    private boolean moves(int sort, int a, int b, int n) {
        House from = world.houses.get(sort == 0 ? a : b), to = world.houses.get(sort == 0 ? b : a);
        if (from.spoons < n || to.spoons + n > 30) {
            return false;
        }
        World before = world.twin();
        from.spoons -= n;
        to.spoons += n;
        world.debts.merge(b + " to " + a, sort == 0 ? n : -n, Integer::sum);
        did(sort, before);
        return true;
    }

    int lend(int a, int b, int n) {
        if (!isHouse(a) || !isHouse(b) || a == b || n < 1 || n > 9) {
            return BAD;
        }
        return moves(0, a, b, n) ? debtOf(b, a) : STATE;
    }

    int back(int a, int b, int n) {
        if (!isHouse(a) || !isHouse(b) || a == b || n < 1 || n > 9) {
            return BAD;
        }
        return debtOf(b, a) >= n && moves(1, a, b, n) ? debtOf(b, a) : STATE;
    }

    int melt(int h, int n) {
        if (!isHouse(h) || n < 1 || n > 9) {
            return BAD;
        }
        House x = world.houses.get(h);
        if (x.spoons < n) {
            return STATE;
        }
        did(2, world.twin());
        return x.spoons -= n;
    }

    int born(int h) {
        if (!isHouse(h)) {
            return BAD;
        }
        House x = world.houses.get(h);
        if (x.mouths == 9 || x.spoons == 30) {
            return FULL;
        }
        did(3, world.twin());
        x.spoons++;
        return ++x.mouths;
    }

    int gone(int h) {
        if (!isHouse(h)) {
            return BAD;
        }
        House x = world.houses.get(h);
        if (x.mouths == 0) {
            return STATE;
        }
        did(4, world.twin());
        return --x.mouths;
    }

    int night() {
        if (world.houses.isEmpty()) {
            return STATE;
        }
        if (nightNo() == 30) {
            return FULL;
        }
        int[] sacks = {sackBy(0, law), sackBy(1, law), sackBy(2, law)};
        did(5, world.twin());
        world.log.add(sacks);
        return sacks[0] + sacks[1] + sacks[2];
    }

    int undo() {
        if (deeds.isEmpty()) {
            return STATE;
        }
        Deed last = deeds.remove(deeds.size() - 1);
        world = last.before();
        return last.sort();
    }

    int keep(int k) {
        if (k < 0 || k > 2) {
            return BAD;
        }
        if (world.houses.isEmpty()) {
            return STATE;
        }
        kept[k] = new Kept(world.twin(), law, tax, fine);
        return nightNo();
    }

    int on(int k) {
        if (k < 0 || k > 2) {
            return BAD;
        }
        if (kept[k] == null) {
            return found(1);
        }
        world = kept[k].world().twin();
        law = kept[k].law();
        tax = kept[k].tax();
        fine = kept[k].fine();
        deeds.clear();
        return nightNo();
    }

    // ---- 3

    int hands(int h) {
        if (!isHouse(h)) {
            return BAD;
        }
        House x = world.houses.get(h);
        asked = counts(x, law);
        return steel(x.kind, x.mouths, x.spoons, nightNo()) + (x.kind == 4 ? 1 : 0);
    }

    int sack(int p) {
        if (!isProvince(p)) {
            return BAD;
        }
        asked = world.houses.stream().filter(h -> h.province == p).mapToInt(h -> h.mouths).sum();
        return sackBy(p, law);
    }

    int was(int night, int p) {
        if (night < 0 || !isProvince(p)) {
            return BAD;
        }
        return night >= nightNo() ? found(2) : world.log.get(night)[p];
    }

    private int allMouths() {
        return world.houses.stream().mapToInt(h -> h.mouths).sum();
    }

    private int offBy(int byLaw) {
        return sackBy(0, byLaw) + sackBy(1, byLaw) + sackBy(2, byLaw) - allMouths();
    }

    int off() {
        fraction(world.houses.stream().mapToInt(h -> Math.abs(lie(h))).sum(), 1);
        return told(offBy(law));
    }

    int liar() {
        if (world.houses.isEmpty()) {
            return STATE;
        }
        int greatest = world.houses.stream().mapToInt(h -> Math.abs(lie(h))).max().getAsInt();
        for (int h = 0;; h++) {
            if (Math.abs(lie(world.houses.get(h))) == greatest) {
                asked = lie(world.houses.get(h));
                return h;
            }
        }
    }

    int best() {
        for (int size = 0;; size++) {
            for (int l = 0; l <= 2; l++) {
                if (Math.abs(offBy(l)) == size) {
                    asked = size;
                    return l;
                }
            }
        }
    }

    // ---- 4

    private List<Integer> housesOf(int p) {
        List<Integer> list = new ArrayList<>();
        for (int h = 0; h < world.houses.size(); h++) {
            if (world.houses.get(h).province == p) {
                list.add(h);
            }
        }
        return list;
    }

    /** All rows of mouths, one number each: the first house's mouths are its last figure. */
    private List<int[]> allWays(List<Integer> who, int n) {
        List<int[]> all = new ArrayList<>();
        int bound = (int) Math.pow(10, who.size());
        for (int x = 0; x < bound; x++) {
            int[] way = new int[who.size()];
            int sum = 0;
            int left = x;
            for (int i = 0; i < way.length; i++) {
                way[i] = left % 10;
                left /= 10;
                sum += counts(world.houses.get(who.get(i)).kind, way[i], way[i], nightNo(), law);
            }
            if (sum == n) {
                all.add(way);
            }
        }
        return all;
    }

    private int sackRefused(int p, int n) {
        if (!isProvince(p) || n < 0 || n > 99) {
            return BAD;
        }
        return housesOf(p).size() > 5 ? SPENT : 0;
    }

    int span(int p, int n) {
        if (sackRefused(p, n) != 0) {
            return sackRefused(p, n);
        }
        List<int[]> all = allWays(housesOf(p), n);
        if (all.isEmpty()) {
            return found(4);
        }
        asked = all.stream().mapToInt(w -> Arrays.stream(w).sum()).max().getAsInt();
        return all.stream().mapToInt(w -> Arrays.stream(w).sum()).min().getAsInt();
    }

    int ways(int p, int n) {
        if (sackRefused(p, n) != 0) {
            return sackRefused(p, n);
        }
        fraction(allWays(housesOf(p), n).size(), 1);
        return 1;
    }

    int odds(int h, int n, int m) {
        if (!isHouse(h) || m < 0 || m > 9) {
            return BAD;
        }
        int p = world.houses.get(h).province;
        if (sackRefused(p, n) != 0) {
            return sackRefused(p, n);
        }
        List<int[]> all = allWays(housesOf(p), n);
        if (all.isEmpty()) {
            return found(4);
        }
        int i = housesOf(p).indexOf(h);
        fraction(all.stream().filter(w -> w[i] == m).count(), all.size());
        return 1;
    }

    int sure(int p, int n) {
        if (sackRefused(p, n) != 0) {
            return sackRefused(p, n);
        }
        List<Integer> who = housesOf(p);
        List<int[]> all = allWays(who, n);
        if (all.isEmpty()) {
            return found(4);
        }
        int bits = 0;
        for (int i = 0; i < who.size(); i++) {
            int at = i;
            if (all.stream().mapToInt(w -> w[at]).distinct().count() == 1) {
                bits |= 1 << who.get(i);
            }
        }
        return bits;
    }

    int lost(int night, int p, int n) {
        if (night < 0 || !isProvince(p) || n < 0 || n > 999) {
            return BAD;
        }
        if (night >= nightNo()) {
            return found(2);
        }
        int[] sacks = world.log.get(night);
        int it = n - (Arrays.stream(sacks).sum() - sacks[p]);
        if (it < 0) {
            return STATE;
        }
        asked = it == sacks[p] ? 1 : 0;
        return it;
    }

    // ---- 5

    int tax(int newTax, int newFine) {
        if (newTax < 0 || newTax > 99 || newFine < 0 || newFine > 99) {
            return BAD;
        }
        tax = newTax;
        fine = newFine;
        return 1;
    }

    private int gain(House h) {
        return tax * h.mouths - tax * counts(h, law);
    }

    int gains(int h) {
        return isHouse(h) ? told(gain(world.houses.get(h))) : BAD;
    }

    private int paid(int set, int byFine) {
        int sum = 0;
        for (int h = 0; h < world.houses.size(); h++) {
            House x = world.houses.get(h);
            if ((set & 1 << h) != 0 && x.mouths > counts(x, law)) {
                sum += byFine * (x.mouths - counts(x, law));
            }
        }
        return sum;
    }

    private int allGains() {
        return world.houses.stream().mapToInt(this::gain).filter(g -> g > 0).sum();
    }

    /** The least set of so many houses (or as many as there are) by which lies don't pay; -1: none. */
    private int enough(int k, int byFine) {
        int many = Math.min(k, world.houses.size());
        for (int set = 0; set < 1 << world.houses.size(); set++) {
            if (Integer.bitCount(set) == many && paid(set, byFine) >= allGains()) {
                return set;
            }
        }
        return -1;
    }

    int look() {
        for (int k = 0; k <= world.houses.size(); k++) {
            if (enough(k, fine) >= 0) {
                asked = enough(k, fine);
                return k;
            }
        }
        return NONE;
    }

    int fine(int k) {
        if (k < 0 || k > 8) {
            return BAD;
        }
        for (int f = 0; f <= 99; f++) {
            if (enough(k, f) >= 0) {
                return f;
            }
        }
        return NONE;
    }

    // ---- 6

    private int leadsRefused(int r, int bites) {
        if (!isRow(r) || !isRow(bites)) {
            return BAD;
        }
        if (rows[r] == null || rows[bites] == null) {
            return found(1);
        }
        if (rows[r].length > 8 || rows[bites].length > 8 || rows[r].length != rows[bites].length) {
            return found(5);
        }
        for (int v : rows[r]) {
            if (v < 0 || v > 9) {
                return found(3);
            }
        }
        for (int v : rows[bites]) {
            if (v < 0 || v > 9) {
                return found(3);
            }
        }
        return 0;
    }

    /** In the order of the document: by spoons, the least mouth first. */
    private void allLeads(int[] wear, int[] bites, int[] way, int spoon, List<int[]> into) {
        if (spoon == wear.length) {
            into.add(way.clone());
            return;
        }
        for (int mouth = 0; mouth < bites.length; mouth++) {
            boolean free = true;
            for (int s = 0; s < spoon; s++) {
                free &= way[s] != mouth;
            }
            if (free && Math.abs(wear[spoon] - bites[mouth]) <= 1) {
                way[spoon] = mouth;
                allLeads(wear, bites, way, spoon + 1, into);
            }
        }
    }

    private List<int[]> allLeads(int r, int bites) {
        List<int[]> all = new ArrayList<>();
        allLeads(rows[r], rows[bites], new int[rows[r].length], 0, all);
        return all;
    }

    int leads(int r, int bites) {
        int refused = leadsRefused(r, bites);
        if (refused != 0) {
            return refused;
        }
        fraction(allLeads(r, bites).size(), 1);
        return 1;
    }

    int led(int r, int bites) {
        int refused = leadsRefused(r, bites);
        if (refused != 0) {
            return refused;
        }
        List<int[]> all = allLeads(r, bites);
        if (all.isEmpty()) {
            return found(4);
        }
        int bits = 0;
        for (int i = 0; i < rows[r].length; i++) {
            int at = i;
            if (all.stream().mapToInt(w -> w[at]).distinct().count() == 1) {
                bits |= 1 << i;
            }
        }
        return bits;
    }

    int lead(int r, int bites, int to) {
        if (!isRow(to)) {
            return BAD;
        }
        int refused = leadsRefused(r, bites);
        if (refused != 0) {
            return refused;
        }
        List<int[]> all = allLeads(r, bites);
        if (all.isEmpty()) {
            return found(4);
        }
        rows[to] = all.get(0);
        return 1;
    }

    private boolean augment(int[] wear, int[] bites, int spoon, boolean[] seen, int[] spoonOf) {
        for (int mouth = 0; mouth < bites.length; mouth++) {
            if (Math.abs(wear[spoon] - bites[mouth]) <= 1 && !seen[mouth]) {
                seen[mouth] = true;
                if (spoonOf[mouth] < 0 || augment(wear, bites, spoonOf[mouth], seen, spoonOf)) {
                    spoonOf[mouth] = spoon;
                    return true;
                }
            }
        }
        return false;
    }

    int most(int r, int bites) {
        int refused = leadsRefused(r, bites);
        if (refused != 0) {
            return refused;
        }
        int[] spoonOf = new int[rows[bites].length];
        Arrays.fill(spoonOf, -1);
        int most = 0;
        for (int spoon = 0; spoon < rows[r].length; spoon++) {
            if (augment(rows[r], rows[bites], spoon, new boolean[rows[bites].length], spoonOf)) {
                most++;
            }
        }
        return most;
    }

    int next(int p) {
        if (!isProvince(p)) {
            return BAD;
        }
        if (nightNo() < 2) {
            return STATE;
        }
        fraction(world.log.stream().mapToInt(s -> s[p]).sum(), nightNo());
        return told(2 * world.log.get(nightNo() - 1)[p] - world.log.get(nightNo() - 2)[p]);
    }

    int years(int n, int seed) {
        if (n < 1 || n > 40 || seed < 1 || seed > 2147483646) {
            return BAD;
        }
        int many = world.houses.size();
        if (many < 2) {
            return STATE;
        }
        int done = 0;
        BigInteger x = BigInteger.valueOf(seed);
        for (int i = 0; i < n; i++) {
            x = x.multiply(BigInteger.valueOf(48271)).mod(BigInteger.valueOf(2147483647));
            int v = x.intValueExact();
            int h = v % many;
            int answer;
            switch (v / 64 % 4) {
                case 0: answer = born(h); break;
                case 1: answer = gone(h); break;
                case 2: answer = melt(h, 1); break;
                default: answer = lend(h, (h + 1) % many, 1); break;
            }
            done += answer >= 0 ? 1 : 0;
        }
        return done;
    }

    // ---- 7

    int asked() {
        return asked;
    }

    long upper() {
        return upper.longValueExact();
    }

    long lower() {
        return lower.longValueExact();
    }

    int count(int what) {
        switch (what) {
            case 0: return world.houses.size();
            case 1: return allMouths();
            case 2: return world.houses.stream().mapToInt(h -> h.spoons).sum();
            case 3: return nightNo();
            case 4: return (int) world.houses.stream().filter(h -> h.kind == 2 || h.kind == 4).count();
            case 5: return (int) world.houses.stream().filter(h -> h.kind == 3 || h.kind == 5).count();
            case 6: return (int) Arrays.stream(rows).filter(r -> r != null).count();
            case 7: return (int) Arrays.stream(texts).filter(t -> t != null).count();
            case 8: return deeds.size();
            default: return BAD;
        }
    }

    int finding() {
        return finding;
    }

    int findings(int f) {
        return f < 1 || f > 5 ? BAD : findings[f];
    }

    long digest() {
        List<Integer> all = new ArrayList<>();
        for (int what = 0; what <= 8; what++) {
            all.add(count(what));
        }
        all.addAll(List.of(law, tax, fine));
        for (int h = 0; h < world.houses.size(); h++) {
            for (int what = 0; what <= 5; what++) {
                all.add(houseTells(h, what));
            }
        }
        for (int a = 0; a < world.houses.size(); a++) {
            for (int b = 0; b < world.houses.size(); b++) {
                all.add(debtOf(b, a));
            }
        }
        for (int[] night : world.log) {
            all.addAll(List.of(night[0], night[1], night[2]));
        }
        for (Kept k : kept) {
            all.add(k == null ? -1 : k.world().log.size());
        }
        for (int[] row : rows) {
            all.add(row == null ? -1 : row.length);
            for (int i = 0; row != null && i < row.length; i++) {
                all.add(row[i]);
            }
        }
        for (byte[] text : texts) {
            all.add(text == null ? -1 : text.length);
            for (int i = 0; text != null && i < text.length; i++) {
                all.add((int) text[i]);
            }
        }
        long h = 17;
        for (int v : all) {
            h = 31 * h + v;
        }
        return h;
    }
}
