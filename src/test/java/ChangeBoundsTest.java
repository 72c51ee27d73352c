/** Each sentence on wishes and changes that names a bound (promises 17 to 20): just within it and just beyond. */
final class ChangeBoundsTest extends Streets {
    public static void main(String[] args) {
        begin(ChangeBoundsTest.class);
        wishes();
        wishesThereOrNot();
        moreThanWhatItOwns();
        withItself();
        nobodyWants();
        firstPairs();
        asLongAsTwoWant();
        marketNumbers();
        mostWishes();
        leastRow();
        bestNumbers();
        nothingChanges();
        askedAnew();
        end();
    }

    private static int[] market(RoofAcross x, int n) {
        int[] row = new int[n];
        for (int h = 0; h < n; h++) {
            row[h] = x.market(h);
        }
        return row;
    }

    private static int[] best(RoofAcross x, int n) {
        int[] row = new int[n];
        for (int h = 0; h < n; h++) {
            row[h] = x.best(h);
        }
        return row;
    }

    private static void wishes() {
        sentence("17: WISHES: how much a HOUSE would like to OWN a roof (0 to 9 each; 0 at first)");
        for (int h = 0; h < 8; h++) {
            for (int r = 0; r < 8; r++) {
                RoofAcross x = new RoofAcross();
                row("wish(" + h + ", " + r + ", ..)", of(x.wish(h, r, 9), x.wish(h, r, 0), x.wish(h, r, 1), x.wish(h, r, 1)), 0, 9, 0, 1);
            }
        }
        RoofAcross x = new RoofAcross();
        x.wish(3, 4, 5);
        row("beyond", of(x.wish(3, 4, -1), x.wish(3, 4, 10), x.wish(3, 4, LEAST), x.wish(3, 4, GREATEST)), BAD, BAD, BAD, BAD);
        for (int bad : of(-1, 8, LEAST, GREATEST)) {
            row("no such number " + bad, of(x.wish(bad, 4, 5), x.wish(3, bad, 5)), BAD, BAD);
        }
        row("behind it, and no other one", of(x.wish(3, 4, 0), x.wish(4, 3, 0), x.wish(3, 3, 0), x.wish(2, 4, 0)), 5, 0, 0, 0);
    }

    private static void wishesThereOrNot() {
        sentence("17: A WISH of a HOUSE (0 to 7) for a roof (0 to 7), there or not");
        RoofAcross x = street(houses(2), "01");
        x.wish(7, 0, 9);
        x.wish(0, 7, 9);
        x.wish(2, 2, 9);
        row("of none that is there", of(x.market(-2), x.best(NONE)), 0, 0);
        typeAll(x, 0, EIGHT.substring(7));
        row("of those that are there now", of(x.count(0), x.best(NONE), x.best(0), x.best(7)), 8, 27, 7, 0);
    }

    private static void moreThanWhatItOwns() {
        sentence("18: Two WANT to change, if each likes what the other one OWNS more than what it OWNS");
        for (int likes = 0; likes <= 9; likes++) {
            for (int has = 0; has <= 9; has++) {
                RoofAcross x = street(houses(2), "01");
                x.wish(0, 1, likes);
                x.wish(0, 0, has);
                x.wish(1, 0, 1);
                due(likes + " for " + has, x.want(0, 1), likes > has ? 1 : 0);
                due(likes + " for " + has + ", of the other one", x.want(1, 0), likes > has ? 1 : 0);
            }
        }
        RoofAcross x = street(houses(2), "10");
        x.wish(0, 0, 9);
        x.wish(1, 1, 9);
        row("what they OWN by LOTS", of(x.want(0, 1), x.wipe(1), x.type(1, '0'), x.type(1, '1'), x.want(0, 1)), 1, 2, 1, 2, 0);
    }

    private static void withItself() {
        sentence("18: BAD: also one with itself");
        RoofAcross x = street(houses(3), "012");
        row("itself", of(x.want(0, 0), x.want(2, 2), x.want(0, 2), x.want(2, 0)), BAD, BAD, 0, 0);
        for (int bad : of(-2, -1, 3, 8, LEAST, GREATEST)) {
            row("no such house " + bad, of(x.want(bad, 0), x.want(0, bad), x.want(bad, bad)), BAD, BAD, BAD);
        }
        due("without HOUSES", new RoofAcross().want(0, 1), BAD);
    }

    private static void nobodyWants() {
        sentence("19: MARKET where nobody WANTS to, or nobody is");
        RoofAcross x = new RoofAcross();
        row("no HOUSES", of(x.market(NONE), x.market(-2), x.market(0)), 0, 0, BAD);
        x = street("00k", "0");
        x.wish(0, 0, 9);
        row("one HOUSE", of(x.market(NONE), x.market(-2), x.market(0), x.market(1)), 0, 9, 0, BAD);
        x = street(EIGHT, "76543210");
        row("no WISHES", market(x, 8), 7, 6, 5, 4, 3, 2, 1, 0);
        row("no changes", of(x.market(NONE), x.market(-2)), 0, 0);
    }

    private static void firstPairs() {
        sentence("19: the first pair (by the lesser number, then by the other one) changes");
        RoofAcross x = street(houses(3), "012");
        x.wish(0, 1, 1);
        x.wish(0, 2, 2);
        x.wish(1, 0, 1);
        x.wish(2, 0, 1);
        row("0 with 1 ahead of 0 with 2", market(x, 3), 1, 0, 2);
        x = street(houses(3), "012");
        x.wish(0, 2, 1);
        x.wish(1, 2, 1);
        x.wish(2, 0, 1);
        x.wish(2, 1, 2);
        row("0 with 2 ahead of 1 with 2", market(x, 3), 2, 1, 0);
        x = street(houses(4), "0123");
        x.wish(0, 3, 1);
        x.wish(0, 1, 2);
        x.wish(3, 0, 1);
        x.wish(1, 2, 1);
        x.wish(1, 3, 2);
        x.wish(2, 1, 1);
        row("0 with 3 ahead of 1 with 2", market(x, 4), 1, 3, 2, 0);
        row("two changes", of(x.market(NONE), x.market(-2), x.best(NONE)), 2, 5, 5);
    }

    private static void asLongAsTwoWant() {
        sentence("19: as long as two WANT to");
        RoofAcross x = street(EIGHT, "01234567");
        for (int h = 0; h < 8; h++) {
            x.wish(h, 7 - h, 9);
        }
        row("four pairs", market(x, 8), 7, 6, 5, 4, 3, 2, 1, 0);
        row("all have what they like", of(x.market(NONE), x.market(-2)), 4, 72);
        x = street(houses(3), "012");
        x.wish(0, 1, 9);
        x.wish(1, 2, 9);
        x.wish(2, 0, 9);
        row("three in a round never change", of(x.market(NONE), x.market(-2), x.market(0), x.best(NONE)), 0, 0, 0, 27);
        x.wish(1, 0, 1);
        row("till one begins", of(x.market(NONE), x.market(-2), x.market(0), x.market(1), x.market(2)), 2, 27, 1, 2, 0);
    }

    private static void marketNumbers() {
        sentence("19: how many changes (house = NONE), WISHES that are had (-2), what a HOUSE OWNS at last");
        RoofAcross x = street(houses(2), "01");
        x.wish(0, 1, 3);
        x.wish(1, 0, 4);
        row("within", of(x.market(-2), x.market(-1), x.market(0), x.market(1)), 7, 1, 1, 0);
        for (int bad : of(-3, 2, 8, LEAST, GREATEST)) {
            due("market(" + bad + ")", x.market(bad), BAD);
        }
    }

    private static void mostWishes() {
        sentence("20: of all ways to OWN the one in which most WISHES, together, are had");
        RoofAcross x = street(houses(2), "10");
        x.wish(0, 0, 5);
        x.wish(0, 1, 9);
        x.wish(1, 1, 5);
        row("10 above 9", of(x.best(NONE), x.best(0), x.best(1)), 10, 0, 1);
        x.wish(1, 1, 4);
        row("9 and 9: the least", of(x.best(NONE), x.best(0), x.best(1)), 9, 0, 1);
        x.wish(1, 1, 3);
        row("8 below 9", of(x.best(NONE), x.best(0), x.best(1)), 9, 1, 0);
        x = street(EIGHT, "");
        for (int h = 0; h < 8; h++) {
            for (int r = 0; r < 8; r++) {
                x.wish(h, r, r == 7 - h ? 9 : 8);
            }
        }
        row("one row of all is best", best(x, 8), 7, 6, 5, 4, 3, 2, 1, 0);
        due("72", x.best(NONE), 72);
    }

    private static void leastRow() {
        sentence("20: of like ones the least row");
        for (int n = 1; n <= 8; n++) {
            RoofAcross x = street(houses(n), "76543210".substring(8 - n));
            row("no WISHES of " + n, best(x, n), java.util.Arrays.copyOf(of(0, 1, 2, 3, 4, 5, 6, 7), n));
            due("how many", x.best(NONE), 0);
        }
        RoofAcross x = street(houses(3), "");
        x.wish(0, 2, 1);
        row("the rest is the least", best(x, 3), 2, 0, 1);
        x.wish(2, 0, 1);
        row("for two", best(x, 3), 2, 1, 0);
        x.wish(0, 1, 2);
        row("1, 2, 0 above 2, 1, 0", best(x, 3), 1, 2, 0);
    }

    private static void bestNumbers() {
        sentence("20: how many WISHES (house = NONE), what a HOUSE OWNS");
        RoofAcross x = street(houses(2), "10");
        row("within", of(x.best(-1), x.best(0), x.best(1)), 0, 0, 1);
        for (int bad : of(-2, -3, 2, 8, LEAST, GREATEST)) {
            due("best(" + bad + ")", x.best(bad), BAD);
        }
        x = new RoofAcross();
        row("no HOUSES", of(x.best(NONE), x.best(0)), 0, BAD);
        x = street("00k", "");
        x.wish(0, 0, 9);
        row("one HOUSE", of(x.best(NONE), x.best(0), x.best(1)), 9, 0, BAD);
    }

    private static void nothingChanges() {
        sentence("They change nothing");
        RoofAcross x = lived();
        row("calls", of(x.market(NONE), x.market(-2), x.best(NONE), x.want(0, 1)), 0, 0, 7, 0);
        x.market(0);
        x.best(0);
        unchanged("behind them", x, lived());
        x = street(houses(2), "01");
        x.wish(0, 1, 1);
        x.wish(1, 0, 1);
        row("asked twice", of(x.market(0), x.market(0), x.best(0), x.house(0, 3), x.want(0, 1)), 1, 1, 1, 0, 1);
    }

    private static void askedAnew() {
        sentence("19, 20: of other WISHES, other texts, fewer HOUSES");
        RoofAcross x = street(houses(3), "012");
        x.wish(0, 1, 5);
        x.wish(1, 0, 5);
        row("at first", of(x.market(NONE), x.market(-2), x.best(NONE)), 1, 10, 10);
        x.wish(2, 2, 3);
        row("a WISH more", of(x.market(NONE), x.market(-2), x.best(NONE)), 1, 13, 13);
        x.wish(1, 0, 0);
        row("one less", of(x.market(NONE), x.market(-2), x.best(NONE)), 0, 3, 8);
        x.wish(1, 0, 4);
        x.type(1, '0');
        row("a WISH and a byte more", of(x.market(NONE), x.market(-2), x.market(0), x.market(1), x.best(NONE)), 1, 12, 1, 0, 12);
        for (int n = 8; n >= 0; n--) {
            x = street(EIGHT, "");
            for (int h = 0; h < 8; h++) {
                x.wish(h, h, 9);
            }
            due("eight", x.best(NONE), 72);
            x.wipe(0);
            typeAll(x, 0, houses(n));
            // two that OWN each other's roofs are the only ones that can give each other their own
            row(n + " of them", of(x.best(NONE), x.best(n - 1), x.market(NONE)), 9 * n, n == 0 ? 0 : n - 1, n == 2 ? 1 : 0);
        }
    }
}
