import java.util.function.Supplier;

/** "Refusals, the first that fits": of each act just beyond each bound its answer, and all as it was behind it. */
final class RefusalBoundsTest extends Streets {
    private static final int[] FAR = {LEAST, GREATEST};

    public static void main(String[] args) {
        begin(RefusalBoundsTest.class);
        sentence("Refusals change nothing, with much told");
        onAStreet(RefusalBoundsTest::clean, 3, 2);
        onAStreet(Streets::lived, 3, 2);
        sentence("Refusals change nothing, with nothing told");
        onAStreet(RoofAcross::new, 0, 0);
        sentence("Refusals change nothing, with all full");
        onAStreet(Streets::full, 0, 12);
        fullOnes();
        notOnes();
        sentence("FINDINGS change nothing but count() 8");
        findings();
        findingsOfGet();
        sentence("7: up to the first that it refuses: how many it took");
        readThatTakesNone();
        end();
    }

    /** As lived(), with no FINDING yet. */
    private static RoofAcross clean() {
        RoofAcross x = street("35k;24g;12f", "120", 4, 6);
        x.wish(0, 2, 3);
        x.fact(0, 0, 0);
        x.claim(0, 5);
        fill(x, 0, 0, 7, -1, 5);
        fill(x, 1, 1, 300, 9);
        x.sheet(2, 2, 0);
        return x;
    }

    /** Each number just beyond what is told of it, and far beyond. */
    private static int[] beyond(int least, int most) {
        return of(least - 1, most + 1, FAR[0], FAR[1]);
    }

    private static void onAStreet(Supplier<RoofAcross> made, int houses, int rains) {
        textsAndRains(made);
        ofHouses(made, houses, rains);
        ofRains(made, houses, rains);
        changes(made, houses);
        owners(made, houses);
        sheets(made);
    }

    private static void textsAndRains(Supplier<RoofAcross> made) {
        for (int v : beyond(0, 1)) {
            refused("type(" + v + ", 48)", made, x -> x.type(v, 48), BAD);
            refused("wipe(" + v + ")", made, x -> x.wipe(v), BAD);
            refused("fault(" + v + ")", made, x -> x.fault(v), BAD);
            refused("set(1, " + v + ")", made, x -> x.set(1, v), BAD);
            refused("set(" + v + ", 1)", made, x -> x.set(v, 1), BAD);
        }
        for (int v : beyond(0, 255)) {
            refused("type(0, " + v + ")", made, x -> x.type(0, v), BAD);
            refused("type(1, " + v + ")", made, x -> x.type(1, v), BAD);
        }
        for (int v : beyond(0, 9)) {
            refused("rain(" + v + ")", made, x -> x.rain(v), BAD);
        }
        for (int v : beyond(1, 9)) {
            refused("set(0, " + v + ")", made, x -> x.set(0, v), BAD);
        }
        for (int v : beyond(0, 8)) {
            refused("count(" + v + ")", made, x -> x.count(v), BAD);
        }
    }

    private static void ofHouses(Supplier<RoofAcross> made, int houses, int rains) {
        for (int v : beyond(0, houses - 1)) {
            for (int what = 0; what <= 4; what++) {
                int w = what;
                refused("house(" + v + ", " + w + ")", made, x -> x.house(v, w), BAD);
            }
            refused("tiles(" + v + ", " + rains + ")", made, x -> x.tiles(v, rains), BAD);
            refused("purse(" + v + ", " + rains + ")", made, x -> x.purse(v, rains), BAD);
            refused("harm(" + v + ", " + rains + ")", made, x -> x.harm(v, rains), BAD);
            refused("laid(" + v + ", " + rains + ")", made, x -> x.laid(v, rains), BAD);
            refused("ring(" + v + ", 0)", made, x -> x.ring(v, 0), BAD);
            refused("dry(" + v + ", 9, 0)", made, x -> x.dry(v, 9, 0), BAD);
        }
        for (int v : beyond(0, 4)) {
            refused("house(0, " + v + ")", made, x -> x.house(0, v), BAD);
        }
        for (int v : beyond(0, 1)) {
            refused("ring(0, " + v + ")", made, x -> x.ring(0, v), BAD);
            refused("dry(0, 9, " + v + ")", made, x -> x.dry(0, 9, v), BAD);
        }
        for (int v : beyond(0, 99)) {
            refused("dry(0, " + v + ", 0)", made, x -> x.dry(0, v, 0), BAD);
        }
    }

    private static void ofRains(Supplier<RoofAcross> made, int houses, int rains) {
        int last = Math.max(0, houses - 1);
        for (int v : beyond(0, rains)) {
            refused("tiles(" + last + ", " + v + ")", made, x -> x.tiles(last, v), BAD);
            refused("purse(" + last + ", " + v + ")", made, x -> x.purse(last, v), BAD);
            refused("harm(" + last + ", " + v + ")", made, x -> x.harm(last, v), BAD);
            refused("laid(" + last + ", " + v + ")", made, x -> x.laid(last, v), BAD);
            refused("all(" + v + ", 0)", made, x -> x.all(v, 0), BAD);
        }
        for (int v : beyond(0, 3)) {
            refused("all(0, " + v + ")", made, x -> x.all(0, v), BAD);
        }
    }

    private static void changes(Supplier<RoofAcross> made, int houses) {
        for (int v : beyond(0, 7)) {
            refused("wish(" + v + ", 2, 5)", made, x -> x.wish(v, 2, 5), BAD);
            refused("wish(0, " + v + ", 5)", made, x -> x.wish(0, v, 5), BAD);
        }
        for (int v : beyond(0, 9)) {
            refused("wish(0, 2, " + v + ")", made, x -> x.wish(0, 2, v), BAD);
        }
        for (int v : beyond(0, houses - 1)) {
            refused("want(" + v + ", 0)", made, x -> x.want(v, 0), BAD);
            refused("want(0, " + v + ")", made, x -> x.want(0, v), BAD);
        }
        refused("want(0, 0)", made, x -> x.want(0, 0), BAD);
        for (int v : beyond(-2, houses - 1)) {
            refused("market(" + v + ")", made, x -> x.market(v), BAD);
        }
        for (int v : beyond(NONE, houses - 1)) {
            refused("best(" + v + ")", made, x -> x.best(v), BAD);
        }
    }

    private static void owners(Supplier<RoofAcross> made, int houses) {
        for (int v : beyond(0, 7)) {
            refused("fact(" + v + ", 1, 1)", made, x -> x.fact(v, 1, 1), BAD);
            refused("fact(1, " + v + ", 1)", made, x -> x.fact(1, v, 1), BAD);
            refused("claim(" + v + ", 1)", made, x -> x.claim(v, 1), -5);
        }
        for (int v : beyond(0, 1)) {
            refused("fact(1, 1, " + v + ")", made, x -> x.fact(1, 1, v), BAD);
            refused("ask(" + v + ")", made, x -> x.ask(v), BAD);
        }
        for (int v : beyond(NONE, houses - 1)) {
            refused("could(" + v + ")", made, x -> x.could(v), BAD);
            refused("hands(9, " + v + ")", made, x -> x.hands(9, v), BAD);
        }
        for (int v : beyond(0, 72)) {
            refused("hands(" + v + ", NONE)", made, x -> x.hands(v, NONE), BAD);
        }
        for (int v : beyond(NONE, 999)) {
            refused("claim(0, " + v + ")", made, x -> x.claim(0, v), -5);
        }
    }

    private static void sheets(Supplier<RoofAcross> made) {
        for (int v : beyond(0, 3)) {
            refused("sheet(" + v + ", 0, 1)", made, x -> x.sheet(v, 0, 1), BAD);
            refused("lose(" + v + ")", made, x -> x.lose(v), BAD);
            refused("put(" + v + ", 0, 0, 1)", made, x -> x.put(v, 0, 0, 1), BAD);
            refused("get(" + v + ", 0, 0)", made, x -> x.get(v, 0, 0), LEAST);
            refused("copy(" + v + ", 0, 0, 0, 1)", made, x -> x.copy(v, 0, 0, 0, 1), BAD);
            refused("copy(0, 0, " + v + ", 0, 1)", made, x -> x.copy(0, 0, v, 0, 1), BAD);
            refused("read(" + v + ")", made, x -> x.read(v), BAD);
            refused("write(" + v + ")", made, x -> x.write(v), BAD);
        }
        for (int v : beyond(0, 2)) {
            refused("sheet(0, " + v + ", 1)", made, x -> x.sheet(0, v, 1), BAD);
            refused("put(0, " + v + ", 0, 1)", made, x -> x.put(0, v, 0, 1), BAD);
            refused("get(0, " + v + ", 0)", made, x -> x.get(0, v, 0), LEAST);
        }
        for (int v : of(49, GREATEST)) {
            refused("sheet(0, 0, " + v + ")", made, x -> x.sheet(0, 0, v), BAD);
        }
    }

    private static void fullOnes() {
        sentence("FULL: a text, RAINS, FACTS, a RING of more than 5");
        refused("type(0, 48)", Streets::full, x -> x.type(0, 48), FULL);
        refused("type(1, 48)", Streets::full, x -> x.type(1, 48), FULL);
        refused("rain(0)", Streets::full, x -> x.rain(0), FULL);
        refused("fact(0, 0, 1)", Streets::full, x -> x.fact(0, 0, 1), FULL);
        Supplier<RoofAcross> six = () -> street(houses(6), "", 4, 6);
        for (int h = 0; h < 6; h++) {
            int it = h;
            refused("dry(" + it + ", 3, 0)", six, x -> x.dry(it, 3, 0), FULL);
            refused("dry(" + it + ", 3, 1)", six, x -> x.dry(it, 3, 1), FULL);
        }
    }

    private static void notOnes() {
        sentence("NOT: no RAIN, no ways, no HOUSES");
        refused("undo()", RoofAcross::new, x -> x.undo(), NOT);
        refused("ask(0)", RoofAcross::new, x -> x.ask(0), NOT);
        refused("ask(1)", RoofAcross::new, x -> x.ask(1), NOT);
        Supplier<RoofAcross> noWays = () -> {
            RoofAcross x = lived();
            x.fact(7, 0, 1);
            return x;
        };
        refused("ask(0)", noWays, x -> x.ask(0), NOT);
        refused("ask(1)", noWays, x -> x.ask(1), NOT);
    }

    private static void findings() {
        for (Supplier<RoofAcross> made : java.util.List.<Supplier<RoofAcross>>of(RefusalBoundsTest::clean, Streets::lived)) {
            refused("read(3)", made, x -> x.read(3), NULL);
            refused("lose(3)", made, x -> x.lose(3), NULL);
            refused("write(3)", made, x -> x.write(3), NULL);
            refused("put(3, 0, 0, 1)", made, x -> x.put(3, 0, 0, 1), NULL);
            refused("copy(3, 0, 0, 0, 1)", made, x -> x.copy(3, 0, 0, 0, 1), NULL);
            refused("copy(0, 0, 3, 0, 1)", made, x -> x.copy(0, 0, 3, 0, 1), NULL);
            refused("put(0, 1, 0, 1)", made, x -> x.put(0, 1, 0, 1), CAST);
            refused("put(1, 2, 0, 1)", made, x -> x.put(1, 2, 0, 1), CAST);
            refused("put(0, 0, -1, 1)", made, x -> x.put(0, 0, -1, 1), INDEX);
            refused("put(0, 0, 3, 1)", made, x -> x.put(0, 0, 3, 1), INDEX);
            refused("put(2, 2, 0, 1)", made, x -> x.put(2, 2, 0, 1), INDEX);
            refused("copy(0, 0, 1, 0, 1)", made, x -> x.copy(0, 0, 1, 0, 1), STORE);
            refused("copy(0, 0, 0, 1, 3)", made, x -> x.copy(0, 0, 0, 1, 3), INDEX);
            refused("copy(1, 1, 1, 0, 2)", made, x -> x.copy(1, 1, 1, 0, 2), INDEX);
            refused("copy(0, -1, 0, 0, 1)", made, x -> x.copy(0, -1, 0, 0, 1), INDEX);
            refused("copy(0, 0, 0, 0, -1)", made, x -> x.copy(0, 0, 0, 0, -1), INDEX);
            refused("sheet(0, 2, -1)", made, x -> x.sheet(0, 2, -1), SIZE);
            refused("sheet(3, 2, -1)", made, x -> x.sheet(3, 2, -1), SIZE);
            refused("sheet(1, 0, least)", made, x -> x.sheet(1, 0, LEAST), SIZE);
        }
    }

    private static void findingsOfGet() {
        refused("get(3, 0, 0)", Streets::lived, x -> x.get(3, 0, 0), LEAST, 1);
        refused("get(0, 1, 0)", Streets::lived, x -> x.get(0, 1, 0), LEAST, 3);
        refused("get(0, 0, 3)", Streets::lived, x -> x.get(0, 0, 3), LEAST, 2);
        refused("get(0, 0, -1)", Streets::lived, x -> x.get(0, 0, -1), LEAST, 2);
        refused("get(2, 2, 0)", Streets::lived, x -> x.get(2, 2, 0), LEAST, 2);
    }

    /** What rain() refuses within read() is not refused of read(): it answers how many it took. */
    private static void readThatTakesNone() {
        Supplier<RoofAcross> noRoom = () -> {
            RoofAcross x = full();
            fill(x, 0, 0, 1, 2, 3);
            return x;
        };
        refused("read(0) with 12 RAINS", noRoom, x -> x.read(0), 0);
        for (int wrong : of(-1, 10)) {
            Supplier<RoofAcross> wrongFirst = () -> {
                RoofAcross x = lived();
                x.put(0, 0, 0, wrong);
                return x;
            };
            refused("read(0) of " + wrong, wrongFirst, x -> x.read(0), 0);
        }
        refused("read(2) of no items", Streets::lived, x -> x.read(2), 0);
    }
}
