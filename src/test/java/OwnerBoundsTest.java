/** Each sentence on facts, hands and claims that names a bound (promises 21 to 27): just within it and just beyond. */
final class OwnerBoundsTest extends Streets {
    public static void main(String[] args) {
        begin(OwnerBoundsTest.class);
        twelveFacts();
        factsAsTold();
        forgotten();
        waysOfNoneToEight();
        allFactsAreSo();
        factsOfWhatIsNotThere();
        couldNumbers();
        worstCase();
        leastToAsk();
        nobodyToAsk();
        seventyTwoHands();
        handsOfAllRains();
        nineTilesAtMost();
        mostHarmFirst();
        whereItTakesNothing();
        nobodyLaysLater();
        handsNumbers();
        claims();
        liars();
        liarsThatThereAre();
        end();
    }

    private static void twelveFacts() {
        sentence("21: FACTS, 12 at most");
        RoofAcross x = street(houses(3), "");
        for (int n = 1; n <= 12; n++) {
            due("fact " + n, x.fact(0, 0, 0), n);
        }
        due("a thirteenth", x.fact(1, 1, 1), FULL);
        row("behind it", of(x.count(5), x.could(NONE), x.could(1)), 12, 4, 7);
        row("BAD ahead of FULL", of(x.fact(8, 0, 0), x.fact(0, 8, 0), x.fact(0, 0, 2)), BAD, BAD, BAD);
        row("forgotten, they begin anew", of(x.forget(), x.fact(1, 1, 1), x.could(NONE), x.could(0)), 12, 1, 2, 5);
        x = street(houses(4), "");
        for (int f = 0; f < 11; f++) {
            x.fact(0, 0, 0);
        }
        row("the twelfth counts", of(x.could(NONE), x.fact(1, 2, 1), x.could(NONE)), 18, 12, 4);
    }

    private static void factsAsTold() {
        sentence("21: a HOUSE OWNS a roof, or does not (HOUSES 0 to 7, there or not); is 1, or not 0");
        RoofAcross x = new RoofAcross();
        row("within", of(x.fact(0, 0, 0), x.fact(7, 0, 0), x.fact(0, 7, 0), x.fact(7, 7, 0), x.fact(0, 0, 1)), 1, 2, 3, 4, 5);
        for (int bad : of(-1, 8, LEAST, GREATEST)) {
            row("no such number " + bad, of(x.fact(bad, 0, 0), x.fact(0, bad, 0)), BAD, BAD);
        }
        for (int is : of(-1, 2, LEAST, GREATEST)) {
            due("is " + is, x.fact(0, 0, is), BAD);
        }
        due("behind it", x.count(5), 5);
    }

    private static void forgotten() {
        sentence("22: FACTS are forgotten: how many");
        RoofAcross x = street(houses(3), "");
        due("none", x.forget(), 0);
        x.fact(0, 0, 1);
        row("one", of(x.could(NONE), x.forget(), x.could(NONE), x.count(5), x.forget()), 2, 1, 6, 0, 0);
        row("twelve", of(full().forget()), 12);
    }

    private static void waysOfNoneToEight() {
        sentence("23: in how many ways all HOUSES could OWN roofs (each one, none twice)");
        int ways = 1;
        for (int n = 0; n <= 8; n++) {
            ways *= Math.max(1, n);
            RoofAcross x = street(houses(n), "");
            due(n + " houses", x.could(NONE), ways);
            for (int h = 0; h < n; h++) {
                due("roofs of " + h + " of " + n, x.could(h), (1 << n) - 1);
            }
        }
        due("LOTS are not known", street(houses(3), "012").could(NONE), 6);
    }

    private static void allFactsAreSo() {
        sentence("23: such that all FACTS are so; which roofs a HOUSE could OWN, as bits");
        RoofAcross x = street(houses(3), "");
        x.fact(0, 1, 1);
        row("one OWNS", of(x.could(NONE), x.could(0), x.could(1), x.could(2)), 2, 2, 5, 5);
        x.fact(1, 0, 0);
        row("all are known", of(x.could(NONE), x.could(0), x.could(1), x.could(2)), 1, 2, 4, 1);
        x.fact(2, 0, 0);
        row("one too many", of(x.could(NONE), x.could(0), x.could(1), x.could(2)), 0, 0, 0, 0);
        x = street(houses(3), "");
        x.fact(0, 1, 1);
        x.fact(0, 1, 0);
        row("so and not so", of(x.could(NONE), x.could(0)), 0, 0);
        x = street(houses(3), "");
        x.fact(0, 1, 1);
        x.fact(2, 1, 1);
        row("none twice", of(x.could(NONE), x.could(0), x.could(1)), 0, 0, 0);
        x = street(houses(3), "");
        x.fact(2, 0, 1);
        x.fact(2, 1, 1);
        row("each one", of(x.could(NONE), x.could(2)), 0, 0);
        x = street(houses(3), "");
        for (int r = 0; r < 3; r++) {
            due("roofs left", x.could(1), 7 & -1 << r);
            x.fact(1, r, 0);
        }
        row("none is left", of(x.could(NONE), x.could(1), x.could(0)), 0, 0, 0);
        x = street(houses(2), "");
        row("of two", of(x.could(NONE), x.could(0)), 2, 3);
        x.fact(0, 0, 0);
        x.type(0, ';');
        row("a FACT and a byte more", of(x.could(NONE), x.ask(0)), 1, NOT);
        typeAll(x, 0, "00k");
        row("of three", of(x.could(NONE), x.could(0)), 4, 6);
        x = street(EIGHT, "");
        x.fact(7, 7, 1);
        row("the last of the last", of(x.could(NONE), x.could(7), x.could(0)), 5040, 128, 127);
    }

    private static void factsOfWhatIsNotThere() {
        sentence("23: one of a HOUSE or a roof that is not there: that it OWNS is never so, that it does not is");
        for (int n = 0; n <= 8; n++) {
            int ways = street(houses(n), "").could(NONE);
            for (int there = 0; there < 8; there++) {
                RoofAcross x = street(houses(n), "");
                x.fact(there, 0, 1);
                due(n + " houses, " + there + " OWNS", x.could(NONE), there < n ? ways / n : 0);
                x = street(houses(n), "");
                x.fact(there, 0, 0);
                due(n + " houses, " + there + " does not", x.could(NONE), there < n ? ways - ways / n : ways);
                x = street(houses(n), "");
                x.fact(0, there, 1);
                due(n + " roofs, " + there + " is OWNED", x.could(NONE), there < n ? ways / n : 0);
                x = street(houses(n), "");
                x.fact(0, there, 0);
                due(n + " roofs, " + there + " is not", x.could(NONE), there < n ? ways - ways / n : ways);
            }
        }
        for (int n = 1; n < 8; n++) {
            RoofAcross x = street(houses(n), "");
            x.fact(7, 0, 1);
            for (int h = 0; h < n; h++) {
                due("no roof for " + h + " of " + n, x.could(h), 0);
            }
            row("nobody to ask", of(x.ask(0), x.ask(1)), NOT, NOT);
        }
        RoofAcross x = street(houses(2), "");
        x.fact(2, 0, 1);
        row("not there", of(x.could(NONE), x.could(0), x.ask(0)), 0, 0, NOT);
        typeAll(x, 0, ";00k");
        row("there now", of(x.could(NONE), x.could(0), x.could(2), x.ask(0)), 2, 6, 1, 0);
    }

    private static void couldNumbers() {
        sentence("23: how many ways (house = NONE), roofs as bits");
        RoofAcross x = street(houses(2), "");
        row("within", of(x.could(-1), x.could(0), x.could(1)), 2, 3, 3);
        for (int bad : of(-2, 2, 8, LEAST, GREATEST)) {
            due("could(" + bad + ")", x.could(bad), BAD);
        }
        due("of no HOUSES", new RoofAcross().could(0), BAD);
    }

    private static void worstCase() {
        sentence("24: the HOUSE to ask what it OWNS, such that in the worst case the fewest ways are left; how many");
        // ways left: 0 1 2, 0 2 1, 1 0 2, 1 2 0, then one by one fewer
        RoofAcross x = street(houses(3), "");
        x.fact(0, 2, 0);
        row("2 and 2, or 1, 1 and 2", of(x.could(NONE), x.ask(0), x.ask(1)), 4, 0, 2);
        x.fact(1, 1, 0);
        row("three ways: 0 leaves 1 or 2, 1 leaves 1 or 2, 2 leaves 1 each", of(x.could(NONE), x.ask(0), x.ask(1)), 3, 2, 1);
        x.fact(2, 2, 0);
        row("two ways", of(x.could(NONE), x.ask(0), x.ask(1)), 2, 0, 1);
        x.fact(0, 0, 1);
        row("one way", of(x.could(NONE), x.ask(0), x.ask(1)), 1, 0, 1);
        x = street(houses(4), "");
        x.fact(0, 0, 1);
        row("who is known leaves all", of(x.could(NONE), x.ask(0), x.ask(1)), 6, 1, 2);
        due("eight HOUSES", street(EIGHT, "").ask(1), 5040);
    }

    private static void leastToAsk() {
        sentence("24: of like ones the least");
        for (int n = 1; n <= 8; n++) {
            due("all alike of " + n, street(houses(n), "").ask(0), 0);
        }
        RoofAcross x = street(houses(4), "");
        x.fact(0, 0, 1);
        x.fact(1, 1, 1);
        row("2 and 3 alike", of(x.ask(0), x.ask(1)), 2, 1);
        x = street(EIGHT, "");
        for (int h = 0; h < 6; h++) {
            x.fact(h, h, 1);
        }
        row("6 and 7 alike", of(x.could(NONE), x.ask(0), x.ask(1)), 2, 6, 1);
    }

    private static void nobodyToAsk() {
        sentence("24: NOT: there are no ways, or no HOUSES");
        RoofAcross x = new RoofAcross();
        row("no HOUSES, one way", of(x.could(NONE), x.ask(0), x.ask(1)), 1, NOT, NOT);
        row("BAD ahead of NOT", of(x.ask(-1), x.ask(2), x.ask(LEAST), x.ask(GREATEST)), BAD, BAD, BAD, BAD);
        typeAll(x, 0, "00k");
        row("one HOUSE", of(x.could(NONE), x.ask(0), x.ask(1), x.ask(2), x.ask(-1)), 1, 0, 1, BAD, BAD);
        x.fact(0, 0, 0);
        row("no ways", of(x.could(NONE), x.ask(0), x.ask(1), x.ask(2), x.ask(-1)), 0, NOT, NOT, BAD, BAD);
        x.forget();
        row("ways again", of(x.ask(0), x.ask(1)), 0, 1);
        typeAll(x, 0, ";");
        row("a FAULT of HOUSES", of(x.ask(0), x.ask(1)), NOT, NOT);
    }

    private static void seventyTwoHands() {
        sentence("25: k tiles (0 to 72) are laid ahead of all RAINS");
        RoofAcross x = street("00l;00l;00l;00l;00l;00l;00l;00l", "", 9);
        for (int k = 0; k <= 72; k++) {
            due("hands(" + k + ", NONE)", x.hands(k, NONE), 72 - k);
        }
        row("none", of(x.hands(0, 0), x.hands(0, 7)), 0, 0);
        row("71", of(x.hands(71, 0), x.hands(71, 6), x.hands(71, 7)), 9, 9, 8);
        row("72", of(x.hands(72, 0), x.hands(72, 7)), 9, 9);
        for (int k : of(-1, 73, LEAST, GREATEST)) {
            row("k " + k, of(x.hands(k, NONE), x.hands(k, 0)), BAD, BAD);
        }
    }

    private static void handsOfAllRains() {
        sentence("25: HARM of all RAINS, of 12 and of those that are left");
        RoofAcross x = street("70l", "0", 9, 9, 9, 9, 9, 9, 9, 9, 9, 9, 9, 8);
        row("12", of(x.hands(0, NONE), x.hands(1, NONE), x.hands(2, NONE), x.hands(2, 0)), 23, 11, 0, 9);
        row("none of an undone one", of(x.undo(), x.hands(0, NONE), x.hands(1, NONE)), 11, 22, 11);
        while (x.count(3) > 1) {
            x.undo();
        }
        row("1", of(x.hands(0, NONE), x.hands(1, NONE), x.hands(72, 0)), 2, 1, 9);
        row("all are undone", of(x.undo(), x.hands(0, NONE), x.hands(72, 0)), 0, 0, 7);
    }

    private static void nineTilesAtMost() {
        sentence("25: 9 TILES on a roof at most; the rest is left");
        RoofAcross x = street("80l", "0", 9, 9);
        row("8", of(x.hands(0, 0), x.hands(1, 0), x.hands(2, 0), x.hands(72, 0)), 8, 9, 9, 9);
        row("its harm", of(x.hands(0, NONE), x.hands(1, NONE), x.hands(2, NONE), x.hands(72, NONE)), 2, 0, 0, 0);
        x = street("90l;80l", "", 9);
        row("9", of(x.hands(72, 0), x.hands(72, 1), x.hands(1, 0), x.hands(1, 1)), 9, 9, 9, 9);
    }

    private static void mostHarmFirst() {
        sentence("25: one by one each where it takes away the most HARM of all RAINS, of like ones on the least number");
        RoofAcross x = street("30l;10l;00l", "", 1, 2, 4, 4);
        int[][] tiles = {{3, 1, 0}, {3, 1, 1}, {3, 2, 1}, {3, 2, 2}, {4, 2, 2}, {4, 3, 2}, {4, 4, 2}, {4, 4, 3}, {4, 4, 4}, {4, 4, 4}};
        int[] harm = {20, 16, 13, 10, 8, 6, 4, 2, 0, 0};
        for (int k = 0; k < harm.length; k++) {
            row("tiles of " + k, of(x.hands(k, 0), x.hands(k, 1), x.hands(k, 2)), tiles[k]);
            due("harm of " + k, x.hands(k, NONE), harm[k]);
        }
        x = street("00l;00l", "", 9);
        row("all on the least number first", of(x.hands(9, 0), x.hands(9, 1), x.hands(10, 0), x.hands(10, 1)), 9, 0, 9, 1);
    }

    private static void whereItTakesNothing() {
        sentence("25: (none, where it takes nothing); tiles that are on a roof then (its own TILES, too)");
        RoofAcross x = street("50l;00l", "");
        row("no RAINS", of(x.hands(72, NONE), x.hands(72, 0), x.hands(72, 1)), 0, 5, 0);
        x.rain(0);
        row("a RAIN of 0", of(x.hands(72, NONE), x.hands(72, 0), x.hands(72, 1)), 0, 5, 0);
        x.rain(5);
        row("a RAIN of 5", of(x.hands(72, NONE), x.hands(72, 0), x.hands(72, 1)), 0, 5, 5);
        x.rain(6);
        row("a RAIN of 6", of(x.hands(72, NONE), x.hands(72, 0), x.hands(72, 1), x.hands(6, 0), x.hands(7, 0)), 0, 6, 6, 6, 6);
    }

    private static void nobodyLaysLater() {
        sentence("25: nobody lays any later, nothing wears");
        RoofAcross x = street("39k;39k", "10", 5, 5, 5);
        row("who keeps", of(x.hands(0, NONE), x.hands(0, 0), x.all(3, 2), x.tiles(0, 3)), 12, 3, 6, 5);
        x.set(1, 1);
        x.set(0, 9);
        row("with WEAR and a PRICE", of(x.hands(0, NONE), x.hands(0, 0), x.hands(1, NONE), x.hands(1, 0)), 12, 3, 9, 4);
        row("nothing is laid by asking", of(x.tiles(0, 0), x.house(0, 0)), 3, 3);
    }

    private static void handsNumbers() {
        sentence("25: HARM of all (house = NONE), tiles on the roof of a HOUSE");
        RoofAcross x = street(houses(2), "", 3);
        row("within", of(x.hands(1, -1), x.hands(1, 0), x.hands(1, 1)), 4, 1, 1);
        for (int bad : of(-2, 2, 8, LEAST, GREATEST)) {
            row("house " + bad, of(x.hands(0, bad), x.hands(72, bad)), BAD, BAD);
        }
        x = new RoofAcross();
        row("no HOUSES", of(x.hands(0, NONE), x.hands(72, NONE), x.hands(0, 0), x.hands(73, NONE)), 0, 0, BAD, BAD);
    }

    private static void claims() {
        sentence("26: a HOUSE (0 to 7, there or not) claims HARM (0 to 999; NONE: nothing, at first): what it claimed. BAD: -5");
        RoofAcross x = new RoofAcross();
        for (int h = 0; h < 8; h++) {
            row("of " + h, of(x.claim(h, 0), x.claim(h, 999), x.claim(h, NONE), x.claim(h, h)), NONE, 0, 999, NONE);
        }
        for (int v : of(-2, 1000, -5, LEAST, GREATEST)) {
            due("claim(3, " + v + ")", x.claim(3, v), -5);
        }
        for (int h : of(-1, 8, LEAST, GREATEST)) {
            row("claim(" + h + ", ..)", of(x.claim(h, 0), x.claim(h, NONE), x.claim(h, 1000)), -5, -5, -5);
        }
        for (int h = 0; h < 8; h++) {
            due("behind it, of " + h, x.claim(h, NONE), h);
        }
    }

    private static void liars() {
        sentence("27: those that there are who claim otherwise than HARM behind all RAINS, as bits");
        for (int v = 3; v <= 5; v++) {
            RoofAcross x = street("00l", "0", 4);
            x.claim(0, v);
            due("4, claimed as " + v, x.liars(), v == 4 ? 0 : 1);
        }
        RoofAcross x = street("00l;90l", "01", 4);
        row("nobody claims", of(x.liars(), x.claim(0, 0), x.claim(1, 0), x.liars()), 0, NONE, NONE, 1);
        row("by the RAINS", of(x.undo(), x.liars(), x.rain(4), x.liars()), 0, 0, 1, 1);
        row("who claims nothing", of(x.claim(0, NONE), x.liars()), 0, 0);
        x = street("00l", "0", 9, 9, 9, 9, 9, 9, 9, 9, 9, 9, 9, 9);
        row("the most", of(x.claim(0, 108), x.liars(), x.claim(0, 999), x.liars()), NONE, 0, 108, 1);
    }

    private static void liarsThatThereAre() {
        sentence("27: those that there are");
        for (int n = 0; n <= 8; n++) {
            RoofAcross x = street(houses(n), "");
            for (int h = 0; h < 8; h++) {
                x.claim(h, 999);
            }
            due(n + " houses", x.liars(), (1 << n) - 1);
        }
    }
}
