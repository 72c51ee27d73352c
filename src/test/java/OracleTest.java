import java.util.Random;

/** Random runs of calls (always the same ones), each answer compared with Oracle's. */
final class OracleTest {
    private static final int[] EDGES = {
        Integer.MIN_VALUE, Integer.MAX_VALUE, -1000, -100, -5, -3, -2, -1, 0, 1, 2, 3, 7, 8, 9, 10, 11, 12, 13,
        39, 40, 41, 47, 48, 49, 72, 73, 99, 100, 127, 128, 255, 256, 999, 1000, 32767, 32768, 65535
    };

    private static Check check = new Check("OracleTest");
    private static Random random;
    private static RoofAcross x;
    private static Oracle o;

    public static void main(String[] args) {
        for (int run = 0; run < 1500; run++) {
            oneRun(run, run % 60 == 0 ? 8 : run % 10 == 0 ? 6 : 5);
            if (check.isWrong()) {
                break;
            }
        }
        check.end();
    }

    private static void oneRun(int run, int mostHouses) {
        random = new Random(run);
        x = new RoofAcross();
        o = new Oracle();
        int calls = 120 + random.nextInt(200);
        int made = 0;
        if (random.nextInt(8) > 0) {
            tellHouses(run, mostHouses);
        }
        boolean wild = random.nextInt(4) == 0;
        while (made < calls && !check.isWrong()) {
            boolean dear = o.count(0) > 5;
            anyCall(run, wild && random.nextInt(3) == 0, dear && random.nextInt(8) > 0, mostHouses);
            made++;
        }
        check.due("run " + run + " at its end digest()", x.digest(), o.digest());
    }

    private static void typeAll(int run, int text, String t) {
        for (char c : t.toCharArray()) {
            same(run, "type(" + text + ", " + (int) c + ")", x.type(text, c), o.type(text, c));
        }
    }

    private static void tellHouses(int run, int most) {
        same(run, "wipe(0)", x.wipe(0), o.wipe(0));
        int n = 1 + random.nextInt(most);
        StringBuilder t = new StringBuilder();
        for (int h = 0; h < n; h++) {
            t.append(h == 0 ? "" : ";").append(random.nextInt(random.nextInt(10) + 1)).append(random.nextInt(10));
            t.append("kgfl".charAt(random.nextInt(4)));
        }
        if (random.nextInt(12) == 0) {
            t.setCharAt(random.nextInt(t.length()), "0123kgfl;x/:".charAt(random.nextInt(12)));
        }
        typeAll(run, 0, t.toString());
        if (random.nextInt(4) > 0) {
            tellLots(run, n);
        }
    }

    private static void tellLots(int run, int n) {
        same(run, "wipe(1)", x.wipe(1), o.wipe(1));
        StringBuilder t = new StringBuilder();
        while (t.length() < n) {
            String figure = "" + random.nextInt(n);
            if (t.indexOf(figure) < 0 || random.nextInt(60) == 0) {
                t.append(figure);
            }
        }
        if (random.nextInt(12) == 0) {
            t.setCharAt(random.nextInt(t.length()), "0123456789x/:".charAt(random.nextInt(13)));
        }
        typeAll(run, 1, t.toString());
    }

    private static void same(int run, String call, long got, long want) {
        check.due("run " + run + " " + call, got, want);
    }

    private static int any(boolean wild, int least, int most) {
        if (wild && random.nextInt(3) == 0) {
            return EDGES[random.nextInt(EDGES.length)];
        }
        return least + random.nextInt(most - least + 1);
    }

    private static int anyHouse(boolean wild) {
        return any(wild, 0, Math.max(0, o.count(0) - (random.nextInt(9) == 0 ? 0 : 1)));
    }

    private static int houseOrNone(boolean wild) {
        return random.nextInt(3) == 0 ? -1 : anyHouse(wild);
    }

    private static void anyCall(int run, boolean w, boolean cheap, int most) {
        int a, b, c, d, e;
        switch (random.nextInt(cheap ? 38 : 45)) {
            case 0: a = any(w, 0, 1); b = any(w, 48, 58); same(run, "type(" + a + ", " + b + ")", x.type(a, b), o.type(a, b)); break;
            case 1: if (random.nextInt(4) == 0) { tellHouses(run, most); } break;
            case 2: if (o.count(0) > 0) { tellLots(run, o.count(0)); } break;
            case 3: a = any(w, 0, 1); same(run, "fault(" + a + ")", x.fault(a), o.fault(a)); break;
            case 4: case 5: a = anyHouse(w); b = any(w, 0, 4); same(run, "house(" + a + ", " + b + ")", x.house(a, b), o.house(a, b)); break;
            case 6: case 7: case 8: a = any(w, 0, 9); same(run, "rain(" + a + ")", x.rain(a), o.rain(a)); break;
            case 9: a = any(w, 0, 3); same(run, "read(" + a + ")", x.read(a), o.read(a)); break;
            case 10: case 11: same(run, "undo()", x.undo(), o.undo()); break;
            case 12: a = any(w, 0, 1); b = a == 0 ? any(w, 1, 9) : any(w, 0, 1); same(run, "set(" + a + ", " + b + ")", x.set(a, b), o.set(a, b)); break;
            case 13: a = anyHouse(w); b = any(w, 0, o.count(3)); same(run, "tiles(" + a + ", " + b + ")", x.tiles(a, b), o.behind(0, a, b)); break;
            case 14: a = anyHouse(w); b = any(w, 0, o.count(3)); same(run, "purse(" + a + ", " + b + ")", x.purse(a, b), o.behind(1, a, b)); break;
            case 15: a = anyHouse(w); b = any(w, 0, o.count(3)); same(run, "harm(" + a + ", " + b + ")", x.harm(a, b), o.behind(2, a, b)); break;
            case 16: a = anyHouse(w); b = any(w, 0, o.count(3)); same(run, "laid(" + a + ", " + b + ")", x.laid(a, b), o.behind(3, a, b)); break;
            case 17: a = any(w, 0, o.count(3)); b = any(w, 0, 3); same(run, "all(" + a + ", " + b + ")", x.all(a, b), o.all(a, b)); break;
            case 18: a = anyHouse(w); b = any(w, 0, 1); same(run, "ring(" + a + ", " + b + ")", x.ring(a, b), o.ring(a, b)); break;
            case 19: case 20: case 21: a = any(w, 0, 7); b = any(w, 0, 7); c = any(w, 0, 9); same(run, "wish(" + a + ", " + b + ", " + c + ")", x.wish(a, b, c), o.wish(a, b, c)); break;
            case 22: a = anyHouse(w); b = anyHouse(w); same(run, "want(" + a + ", " + b + ")", x.want(a, b), o.want(a, b)); break;
            case 23: a = random.nextInt(4) == 0 ? -2 : houseOrNone(w); same(run, "market(" + a + ")", x.market(a), o.market(a)); break;
            case 24: a = anyHouse(w); b = anyHouse(w); c = random.nextInt(4) == 0 ? 1 : any(w, 0, 1); same(run, "fact(" + a + ", " + b + ", " + c + ")", x.fact(a, b, c), o.fact(a, b, c)); break;
            case 25: if (random.nextInt(3) == 0) { same(run, "forget()", x.forget(), o.forget()); } break;
            case 26: a = any(w, 0, 72); b = houseOrNone(w); same(run, "hands(" + a + ", " + b + ")", x.hands(a, b), o.hands(a, b)); break;
            case 27: a = any(w, 0, 7); b = any(w, -1, 30); same(run, "claim(" + a + ", " + b + ")", x.claim(a, b), o.claim(a, b)); break;
            case 28: same(run, "liars()", x.liars(), o.liars()); break;
            case 29: case 30: a = any(w, 0, 3); b = any(w, 0, 2); c = any(w, -1, 16); same(run, "sheet(" + a + ", " + b + ", " + c + ")", x.sheet(a, b, c), o.sheet(a, b, c)); break;
            case 31: if (random.nextInt(3) == 0) { a = any(w, 0, 3); same(run, "lose(" + a + ")", x.lose(a), o.lose(a)); } break;
            case 32: case 33: a = any(w, 0, 3); b = any(w, 0, 2); c = any(w, -1, 16); d = random.nextBoolean() ? random.nextInt(10) : EDGES[random.nextInt(EDGES.length)];
                same(run, "put(" + a + ", " + b + ", " + c + ", " + d + ")", x.put(a, b, c, d), o.put(a, b, c, d)); break;
            case 34: a = any(w, 0, 3); b = any(w, 0, 2); c = any(w, -1, 16); same(run, "get(" + a + ", " + b + ", " + c + ")", x.get(a, b, c), o.get(a, b, c)); break;
            case 35: a = any(w, 0, 3); b = any(w, -1, 16); c = any(w, 0, 3); d = any(w, -1, 16); e = any(w, -1, 10);
                same(run, "copy(" + a + ", " + b + ", " + c + ", " + d + ", " + e + ")", x.copy(a, b, c, d, e), o.copy(a, b, c, d, e)); break;
            case 36: a = any(w, 0, 3); same(run, "write(" + a + ")", x.write(a), o.write(a)); break;
            case 37: a = any(w, 0, 8); same(run, "count(" + a + ")", x.count(a), o.count(a)); break;
            case 38: case 39: a = anyHouse(w); b = random.nextBoolean() ? any(w, 0, 99) : any(w, 0, 30); c = any(w, 0, 1);
                same(run, "dry(" + a + ", " + b + ", " + c + ")", x.dry(a, b, c), o.dry(a, b, c)); break;
            case 40: case 41: a = houseOrNone(w); same(run, "best(" + a + ")", x.best(a), o.best(a)); break;
            case 42: a = houseOrNone(w); same(run, "could(" + a + ")", x.could(a), o.could(a)); break;
            case 43: a = any(w, 0, 1); same(run, "ask(" + a + ")", x.ask(a), o.ask(a)); break;
            default: if (random.nextInt(o.count(0) > 5 ? 20 : 5) == 0) { same(run, "digest()", x.digest(), o.digest()); } break;
        }
    }
}
