import java.util.ArrayList;
import java.util.List;
import java.util.regex.Matcher;
import java.util.regex.Pattern;

/** The document once more, as plainly and slowly as can be, for OracleTest to compare with. */
final class Oracle {
    private static final Pattern HOUSES =
            Pattern.compile("([0-9][0-9][kgfl](;[0-9][0-9][kgfl])*)?", Pattern.DOTALL);

    /** What stands behind a rain: of each house. */
    private static final class Moment {
        int[] tiles, purse, harm, laid;
        boolean[] tileCame;
    }

    private final String[] texts = {"", ""};
    private final List<Integer> rains = new ArrayList<>();
    private final int[][] wishes = new int[8][8];
    private final List<int[]> facts = new ArrayList<>();
    private final int[] claims = {-1, -1, -1, -1, -1, -1, -1, -1};
    private final Object[] sheets = new Object[4];
    private int price = 1;
    private int wear = 0;
    private int finding = 0;

    int type(int text, int b) {
        if (text < 0 || text > 1 || b < 0 || b > 255) return -2;
        if (texts[text].length() == (text == 0 ? 40 : 10)) return -4;
        texts[text] = texts[text] + (char) b;
        return texts[text].length();
    }

    int wipe(int text) {
        if (text < 0 || text > 1) return -2;
        int old = texts[text].length();
        texts[text] = "";
        return old;
    }

    int fault(int text) {
        if (text < 0 || text > 1) return -2;
        return text == 0 ? housesFault() : lotsFault();
    }

    private int housesFault() {
        String t = texts[0];
        for (int end = 1; end <= t.length(); end++) {
            Matcher m = HOUSES.matcher(t.substring(0, end));
            boolean goesOn = m.matches() || m.hitEnd();
            boolean ninth = t.substring(0, end - 1).chars().filter(c -> c == ';').count() == 8;
            if (!goesOn || ninth) return end - 1;
        }
        return HOUSES.matcher(t).matches() ? -1 : t.length();
    }

    private int lotsFault() {
        String t = texts[1];
        int n = n();
        for (int i = 0; i < t.length(); i++) {
            if (i >= n) return i;
            if ("0123456789".substring(0, n).indexOf(t.charAt(i)) < 0) return i;
            if (t.substring(0, i).indexOf(t.charAt(i)) >= 0) return i;
        }
        return t.length() == n ? -1 : t.length();
    }

    private int n() {
        if (texts[0].isEmpty() || housesFault() != -1) return 0;
        return texts[0].split(";").length;
    }

    private int[] owns() {
        int[] owns = new int[n()];
        boolean well = lotsFault() == -1;
        for (int h = 0; h < owns.length; h++) owns[h] = well ? texts[1].charAt(h) - '0' : (h + 1) % owns.length;
        return owns;
    }

    private int[] tempers() {
        int[] tempers = new int[n()];
        for (int h = 0; h < tempers.length; h++) tempers[h] = "kgfl".indexOf(texts[0].split(";")[h].charAt(2));
        return tempers;
    }

    int house(int house, int what) {
        if (house < 0 || house >= n() || what < 0 || what > 4) return -2;
        if (what < 2) return texts[0].split(";")[house].charAt(what) - '0';
        if (what == 2) return tempers()[house];
        int[] owns = owns();
        if (what == 3) return owns[house];
        for (int h = 0; h < owns.length; h++) if (owns[h] == house) return h;
        throw new IllegalStateException();
    }

    int rain(int strength) {
        if (strength < 0 || strength > 9) return -2;
        if (rains.size() == 12) return -4;
        rains.add(strength);
        return rains.size();
    }

    int read(int s) {
        if (s < 0 || s > 3) return -2;
        if (sheets[s] == null) return found(1);
        int took = 0;
        for (int i = 0; i < size(s); i++) {
            if (rain(item(s, i)) < 0) break;
            took++;
        }
        return took;
    }

    int undo() {
        if (rains.isEmpty()) return -3;
        rains.remove(rains.size() - 1);
        return rains.size();
    }

    int set(int what, int v) {
        if (what == 0 && v >= 1 && v <= 9) {
            int old = price;
            price = v;
            return old;
        }
        if (what == 1 && v >= 0 && v <= 1) {
            int old = wear;
            wear = v;
            return old;
        }
        return -2;
    }

    private Moment moment(int[] tempers, int k) {
        int n = n();
        int[] owns = owns();
        Moment m = new Moment();
        m.tiles = new int[n];
        m.purse = new int[n];
        m.harm = new int[n];
        m.laid = new int[n];
        m.tileCame = new boolean[n];
        for (int h = 0; h < n; h++) {
            m.tiles[h] = texts[0].charAt(4 * h) - '0';
            m.purse[h] = texts[0].charAt(4 * h + 1) - '0';
        }
        for (int r = 0; r < k; r++) rainOn(m, owns, tempers, rains.get(r));
        return m;
    }

    private void rainOn(Moment m, int[] owns, int[] tempers, int strength) {
        int n = owns.length;
        int[] leak = new int[n];
        for (int h = 0; h < n; h++) {
            leak[h] = strength > m.tiles[h] ? strength - m.tiles[h] : 0;
            m.harm[h] += leak[h];
        }
        boolean[] comes = new boolean[n];
        for (int o = 0; o < n; o++) {
            int roof = owns[o];
            boolean can = m.purse[o] >= price && m.tiles[roof] < 9;
            boolean will = false;
            if (tempers[o] == 0) will = leak[roof] > 0;
            if (tempers[o] == 1) will = leak[roof] > 0 && (leak[o] == 0 || m.tileCame[o]);
            if (tempers[o] == 2) will = leak[roof] >= 3;
            comes[roof] = can && will;
        }
        for (int o = 0; o < n; o++) {
            if (comes[owns[o]]) {
                m.purse[o] -= price;
                m.tiles[owns[o]]++;
                m.laid[owns[o]]++;
            }
        }
        for (int h = 0; h < n; h++) {
            if (wear == 1 && leak[h] > 0 && !comes[h] && m.tiles[h] > 0) m.tiles[h]--;
        }
        m.tileCame = comes;
    }

    private int[] kind(int k, int what) {
        Moment m = moment(tempers(), k);
        return new int[][] {m.tiles, m.purse, m.harm, m.laid}[what];
    }

    int behind(int what, int house, int k) {
        if (house < 0 || house >= n() || k < 0 || k > rains.size()) return -2;
        return kind(k, what)[house];
    }

    int all(int k, int what) {
        if (k < 0 || k > rains.size() || what < 0 || what > 3) return -2;
        int sum = 0;
        for (int v : kind(k, what)) sum += v;
        return sum;
    }

    private List<Integer> ringOf(int house) {
        List<Integer> ring = new ArrayList<>();
        int[] owns = owns();
        for (int h = house; !ring.contains(h); h = owns[h]) ring.add(h);
        return ring;
    }

    int ring(int house, int what) {
        if (house < 0 || house >= n() || what < 0 || what > 1) return -2;
        int bits = 0;
        for (int h : ringOf(house)) bits += 1 << h;
        return what == 0 ? bits : ringOf(house).size();
    }

    int dry(int house, int harm, int what) {
        if (house < 0 || house >= n() || harm < 0 || harm > 99 || what < 0 || what > 1) return -2;
        List<Integer> ring = ringOf(house);
        if (ring.size() > 5) return -4;
        ring.sort(null);
        int[] tempers = tempers();
        int rows = 0;
        int first = -1;
        for (int code = 0; code < Math.pow(4, ring.size()); code++) {
            int left = code;
            for (int i = ring.size() - 1; i >= 0; i--) {
                tempers[ring.get(i)] = left % 4;
                left /= 4;
            }
            Moment m = moment(tempers, rains.size());
            boolean dry = true;
            for (int h : ring) dry &= m.harm[h] <= harm;
            if (dry && rows++ == 0) first = code;
        }
        return what == 0 ? rows : first;
    }

    int wish(int house, int roof, int v) {
        if (house < 0 || house > 7 || roof < 0 || roof > 7 || v < 0 || v > 9) return -2;
        int old = wishes[house][roof];
        wishes[house][roof] = v;
        return old;
    }

    private boolean wants(int a, int b, int[] owns) {
        return wishes[a][owns[b]] > wishes[a][owns[a]] && wishes[b][owns[a]] > wishes[b][owns[b]];
    }

    int want(int a, int b) {
        if (a < 0 || a >= n() || b < 0 || b >= n() || a == b) return -2;
        return wants(a, b, owns()) ? 1 : 0;
    }

    int market(int house) {
        if (house < -2 || house >= n()) return -2;
        int[] owns = owns();
        int changes = 0;
        boolean again = true;
        while (again) {
            again = false;
            for (int a = 0; a < owns.length && !again; a++) {
                for (int b = a + 1; b < owns.length && !again; b++) {
                    if (wants(a, b, owns)) {
                        int roof = owns[a];
                        owns[a] = owns[b];
                        owns[b] = roof;
                        changes++;
                        again = true;
                    }
                }
            }
        }
        return house == -1 ? changes : house == -2 ? had(owns) : owns[house];
    }

    private int had(int[] owns) {
        int sum = 0;
        for (int h = 0; h < owns.length; h++) sum += wishes[h][owns[h]];
        return sum;
    }

    /** All rows of roofs, none twice in a row, the least row first. */
    static List<int[]> rows(int n) {
        List<int[]> rows = new ArrayList<>();
        fill(new int[n], 0, rows);
        return rows;
    }

    private static void fill(int[] row, int at, List<int[]> rows) {
        if (at == row.length) {
            rows.add(row.clone());
            return;
        }
        for (int r = 0; r < row.length; r++) {
            boolean taken = false;
            for (int i = 0; i < at; i++) taken |= row[i] == r;
            if (taken) continue;
            row[at] = r;
            fill(row, at + 1, rows);
        }
    }

    int best(int house) {
        if (house < -1 || house >= n()) return -2;
        int[] best = null;
        for (int[] row : rows(n())) if (best == null || had(row) > had(best)) best = row;
        return house == -1 ? had(best) : best[house];
    }

    int fact(int house, int roof, int is) {
        if (house < 0 || house > 7 || roof < 0 || roof > 7 || is < 0 || is > 1) return -2;
        if (facts.size() == 12) return -4;
        facts.add(new int[] {house, roof, is});
        return facts.size();
    }

    int forget() {
        int old = facts.size();
        facts.clear();
        return old;
    }

    private List<int[]> ways() {
        List<int[]> ways = new ArrayList<>();
        for (int[] row : rows(n())) {
            boolean so = true;
            for (int[] f : facts) {
                boolean owns = f[0] < row.length && row[f[0]] == f[1];
                so &= owns == (f[2] == 1);
            }
            if (so) ways.add(row);
        }
        return ways;
    }

    int could(int house) {
        if (house < -1 || house >= n()) return -2;
        List<int[]> ways = ways();
        if (house == -1) return ways.size();
        int bits = 0;
        for (int[] way : ways) bits |= 1 << way[house];
        return bits;
    }

    int ask(int what) {
        if (what < 0 || what > 1) return -2;
        List<int[]> ways = ways();
        if (n() == 0 || ways.isEmpty()) return -3;
        int whom = -1;
        int fewest = Integer.MAX_VALUE;
        for (int h = 0; h < n(); h++) {
            int[] left = new int[8];
            for (int[] way : ways) left[way[h]]++;
            int worst = 0;
            for (int l : left) worst = Math.max(worst, l);
            if (worst < fewest) {
                fewest = worst;
                whom = h;
            }
        }
        return what == 0 ? whom : fewest;
    }

    private int harmUnder(int[] tiles) {
        int sum = 0;
        for (int t : tiles) for (int r : rains) sum += Math.max(0, r - t);
        return sum;
    }

    int hands(int k, int house) {
        if (k < 0 || k > 72 || house < -1 || house >= n()) return -2;
        int[] tiles = moment(tempers(), 0).tiles;
        for (int i = 0; i < k; i++) {
            int where = -1;
            int least = harmUnder(tiles);
            for (int h = 0; h < tiles.length; h++) {
                if (tiles[h] == 9) continue;
                tiles[h]++;
                if (harmUnder(tiles) < least) {
                    least = harmUnder(tiles);
                    where = h;
                }
                tiles[h]--;
            }
            if (where >= 0) tiles[where]++;
        }
        return house == -1 ? harmUnder(tiles) : tiles[house];
    }

    int claim(int house, int v) {
        if (house < 0 || house > 7 || v < -1 || v > 999) return -5;
        int old = claims[house];
        claims[house] = v;
        return old;
    }

    int liars() {
        int bits = 0;
        int[] harm = kind(rains.size(), 2);
        for (int h = 0; h < harm.length; h++) if (claims[h] != -1 && claims[h] != harm[h]) bits += 1 << h;
        return bits;
    }

    private int found(int number) {
        finding = number;
        return -10 - number;
    }

    private int form(int s) {
        return sheets[s] instanceof byte[] ? 0 : sheets[s] instanceof short[] ? 1 : 2;
    }

    private int size(int s) {
        return java.lang.reflect.Array.getLength(sheets[s]);
    }

    private int item(int s, int i) {
        return java.lang.reflect.Array.getInt(sheets[s], i);
    }

    private void become(int s, int i, int v) {
        if (sheets[s] instanceof byte[] b) b[i] = (byte) v;
        if (sheets[s] instanceof short[] h) h[i] = (short) v;
        if (sheets[s] instanceof int[] x) x[i] = v;
    }

    int sheet(int s, int form, int n) {
        if (s < 0 || s > 3 || form < 0 || form > 2 || n > 48) return -2;
        if (n < 0) return found(5);
        sheets[s] = form == 0 ? new byte[n] : form == 1 ? new short[n] : new int[n];
        return n;
    }

    int lose(int s) {
        if (s < 0 || s > 3) return -2;
        if (sheets[s] == null) return found(1);
        int old = size(s);
        sheets[s] = null;
        return old;
    }

    int put(int s, int form, int i, int v) {
        if (s < 0 || s > 3 || form < 0 || form > 2) return -2;
        if (sheets[s] == null) return found(1);
        if (form(s) != form) return found(3);
        if (i < 0 || i >= size(s)) return found(2);
        become(s, i, v);
        return 1;
    }

    int get(int s, int form, int i) {
        if (s < 0 || s > 3 || form < 0 || form > 2) return Integer.MIN_VALUE;
        int number = sheets[s] == null ? 1 : form(s) != form ? 3 : i < 0 || i >= size(s) ? 2 : 0;
        if (number == 0) return item(s, i);
        found(number);
        return Integer.MIN_VALUE;
    }

    int copy(int s, int i, int t, int j, int n) {
        if (s < 0 || s > 3 || t < 0 || t > 3) return -2;
        if (sheets[s] == null || sheets[t] == null) return found(1);
        if (form(s) != form(t)) return found(4);
        if (i < 0 || j < 0 || n < 0) return found(2);
        if ((long) i + n > size(s) || (long) j + n > size(t)) return found(2);
        List<Integer> asTheyWere = new ArrayList<>();
        for (int x = 0; x < n; x++) asTheyWere.add(item(s, i + x));
        for (int x = 0; x < n; x++) become(t, j + x, asTheyWere.get(x));
        return 1;
    }

    int write(int s) {
        if (s < 0 || s > 3) return -2;
        if (sheets[s] == null) return found(1);
        int[] harm = kind(rains.size(), 2);
        int written = 0;
        for (int h = 0; h < harm.length && h < size(s); h++) {
            become(s, h, harm[h]);
            written++;
        }
        return written;
    }

    int count(int what) {
        switch (what) {
            case 0: return n();
            case 1: return texts[0].length();
            case 2: return texts[1].length();
            case 3: return rains.size();
            case 4: {
                List<Integer> rings = new ArrayList<>();
                for (int h = 0; h < n(); h++) if (!rings.contains(ring(h, 0))) rings.add(ring(h, 0));
                return rings.size();
            }
            case 5: return facts.size();
            case 6: return price;
            case 7: return wear;
            case 8: return finding;
            default: return -2;
        }
    }

    long digest() {
        List<Integer> all = new ArrayList<>();
        for (int i = 0; i < 8; i++) all.add(count(i));
        for (int i = 0; i < 2; i++) all.add(fault(i));
        int k = rains.size();
        for (int h = 0; h < n(); h++) {
            for (int i = 0; i < 5; i++) all.add(house(h, i));
            for (int i = 0; i < 4; i++) all.add(behind(i, h, k));
            for (int i = 0; i < 2; i++) all.add(ring(h, i));
            for (int i = 0; i < 2; i++) all.add(dry(h, 3, i));
            all.add(market(h));
            all.add(best(h));
            all.add(could(h));
            all.add(hands(9, h));
        }
        for (int i = 0; i < 4; i++) all.add(all(k, i));
        all.add(market(-1));
        all.add(market(-2));
        all.add(best(-1));
        all.add(could(-1));
        for (int i = 0; i < 2; i++) all.add(ask(i));
        all.add(hands(9, -1));
        all.add(liars());
        long h = 17;
        for (int v : all) h = 31 * h + v;
        return h;
    }
}
