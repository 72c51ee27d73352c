import java.util.function.Supplier;
import java.util.function.ToIntFunction;

/** What the tests by hand share: streets of texts and rains, answers that are due, what holds behind a refusal. */
abstract class Streets {
    static final int NONE = RoofAcross.NONE, BAD = RoofAcross.BAD, NOT = RoofAcross.NOT, FULL = RoofAcross.FULL;
    static final int NULL = -11, INDEX = -12, CAST = -13, STORE = -14, SIZE = -15;
    static final int LEAST = Integer.MIN_VALUE, GREATEST = Integer.MAX_VALUE;
    static final String EIGHT = "00k;11g;22f;33l;44k;55g;66f;77l";

    private static Check check;
    private static String sentence = "";

    static void begin(Class<?> test) {
        check = new Check(test.getName());
    }

    /** What the checks from here on are about: a promise by its number, or a sentence of the document. */
    static void sentence(String words) {
        sentence = words;
    }

    static void end() {
        check.end();
    }

    static void due(String call, long got, long want) {
        check.due(sentence + ": " + call, got, want);
    }

    /** The answers of one call for houses 0 on, or any row of numbers. */
    static void row(String call, int[] got, int... want) {
        due(call + ", how many", got.length, want.length);
        for (int i = 0; i < Math.min(got.length, want.length); i++) {
            due(call + " [" + i + "]", got[i], want[i]);
        }
    }

    static int[] of(int... numbers) {
        return numbers;
    }

    static RoofAcross street(String houses, String lots, int... rains) {
        RoofAcross x = new RoofAcross();
        typeAll(x, 0, houses);
        typeAll(x, 1, lots);
        for (int r : rains) {
            x.rain(r);
        }
        return x;
    }

    static void typeAll(RoofAcross x, int text, String t) {
        for (char c : t.toCharArray()) {
            x.type(text, c);
        }
    }

    /** The first houses of EIGHT. */
    static String houses(int n) {
        return n == 0 ? "" : EIGHT.substring(0, 4 * n - 1);
    }

    /** A sheet with these items. */
    static void fill(RoofAcross x, int s, int form, int... items) {
        x.sheet(s, form, items.length);
        for (int i = 0; i < items.length; i++) {
            x.put(s, form, i, items[i]);
        }
    }

    static int[] items(RoofAcross x, int s, int form, int n) {
        int[] items = new int[n];
        for (int i = 0; i < n; i++) {
            items[i] = x.get(s, form, i);
        }
        return items;
    }

    /** A street on which something is told of everything, and on which SIZE was found last. */
    static RoofAcross lived() {
        RoofAcross x = street("35k;24g;12f", "120", 4, 6);
        x.set(0, 2);
        x.set(1, 1);
        x.wish(0, 2, 3);
        x.wish(2, 1, 4);
        x.wish(7, 6, 9);
        x.fact(0, 0, 0);
        x.fact(6, 1, 0);
        x.claim(0, 5);
        x.claim(7, 999);
        fill(x, 0, 0, 7, -1, 5);
        fill(x, 1, 1, 300, 9);
        x.sheet(2, 2, 0);
        x.sheet(3, 0, -1);
        return x;
    }

    /** A street with nothing left to add: texts of 40 and 10 bytes, 12 rains, 12 facts. */
    static RoofAcross full() {
        RoofAcross x = street(EIGHT + ";00k;00k;", "0123456701", 0, 1, 2, 3, 4, 5, 6, 7, 8, 9, 8, 7);
        for (int f = 0; f < 12; f++) {
            x.fact(f % 8, (f + 1) % 8, 0);
        }
        return x;
    }

    /**
     * A call that a street refuses: its answer; count(8), which none but a finding changes; and all
     * else as on the same street without that call.
     */
    static void refused(String call, Supplier<RoofAcross> made, ToIntFunction<RoofAcross> act, int answer) {
        int finding = answer <= NULL && answer >= SIZE ? -10 - answer : made.get().count(8);
        refused(call, made, act, answer, finding);
    }

    static void refused(String call, Supplier<RoofAcross> made, ToIntFunction<RoofAcross> act, int answer, int finding) {
        RoofAcross x = made.get();
        due(call, act.applyAsInt(x), answer);
        due("count(8) behind " + call, x.count(8), finding);
        unchanged("behind " + call, x, made.get());
    }

    static void unchanged(String when, RoofAcross x, RoofAcross like) {
        long[] got = told(x);
        long[] want = told(like);
        due(when + ", how much is told", got.length, want.length);
        for (int i = 0; i < Math.min(got.length, want.length); i++) {
            due(when + " [" + i + "]", got[i], want[i]);
        }
    }

    /** All that an object tells but count(8), in some 200 calls; the object is of no use behind it. */
    private static long[] told(RoofAcross x) {
        long[] told = new long[400];
        int n = 0;
        told[n++] = x.digest();
        for (int what = 0; what <= 7; what++) {
            told[n++] = x.count(what);
        }
        for (int k = 0; k <= x.count(3); k++) {
            told[n++] = x.harm(0, k);
            told[n++] = x.all(k, 0);
        }
        for (int s = 0; s < 4; s++) {
            for (int form = 0; form < 3; form++) {
                for (int i = 0; i < 4; i++) {
                    told[n++] = x.get(s, form, i);
                }
            }
            told[n++] = x.lose(s);
        }
        for (int h = 0; h < 8; h++) {
            told[n++] = x.claim(h, NONE);
            for (int r = 0; r < 8; r++) {
                told[n++] = x.wish(h, r, 0);
            }
        }
        told[n++] = x.forget();
        return java.util.Arrays.copyOf(told, n);
    }

    /** h becomes 31 h and each of these. */
    static long fold(long h, int... numbers) {
        for (int v : numbers) {
            h = 31 * h + v;
        }
        return h;
    }

    /** The digest as the document tells it, by all the other calls. */
    static long foldedByTheDocument(RoofAcross x) {
        long h = 17;
        for (int i = 0; i < 8; i++) {
            h = fold(h, x.count(i));
        }
        h = fold(h, x.fault(0), x.fault(1));
        int k = x.count(3);
        for (int it = 0; it < x.count(0); it++) {
            h = fold(h, x.house(it, 0), x.house(it, 1), x.house(it, 2), x.house(it, 3), x.house(it, 4));
            h = fold(h, x.tiles(it, k), x.purse(it, k), x.harm(it, k), x.laid(it, k), x.ring(it, 0), x.ring(it, 1));
            h = fold(h, x.dry(it, 3, 0), x.dry(it, 3, 1), x.market(it), x.best(it), x.could(it), x.hands(9, it));
        }
        h = fold(h, x.all(k, 0), x.all(k, 1), x.all(k, 2), x.all(k, 3), x.market(NONE), x.market(-2), x.best(NONE));
        return fold(h, x.could(NONE), x.ask(0), x.ask(1), x.hands(9, NONE), x.liars());
    }
}
