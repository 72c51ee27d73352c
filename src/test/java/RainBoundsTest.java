/** Each sentence on rains and what becomes that names a bound (promises 6 to 16): just within it and just beyond. */
final class RainBoundsTest extends Streets {
    private static final int[] TWELVE = {0, 1, 2, 3, 4, 5, 6, 7, 8, 9, 0, 9};
    private static final int[] TWELVE_NINES = {9, 9, 9, 9, 9, 9, 9, 9, 9, 9, 9, 9};

    public static void main(String[] args) {
        begin(RainBoundsTest.class);
        twelveRains();
        strengths();
        readAsManyAsFit();
        readUpToARefusedItem();
        readByForms();
        undoneRains();
        priceAndWear();
        leaks();
        allAtOnce();
        thePrice();
        nineTiles();
        whoKeeps();
        whoFears();
        whoHasAGrudge();
        whoThanks();
        whoLetsBe();
        wornTiles();
        behindSoManyRains();
        allTogether();
        ringsOfOneToEight();
        dryRingsOfFive();
        dryHarm();
        dryRows();
        dryNumbers();
        dryByGrudges();
        dryAnew();
        end();
    }

    private static void twelveRains() {
        sentence("6: RAINS, 12 at most (0 on)");
        RoofAcross x = street("00l", "0");
        for (int n = 1; n <= 12; n++) {
            due("rain " + n, x.rain(TWELVE[n - 1]), n);
            due("harm behind " + n, x.harm(0, n), sum(n));
        }
        due("a thirteenth", x.rain(9), FULL);
        row("behind it", of(x.count(3), x.harm(0, 12), x.harm(0, 13)), 12, 54, BAD);
        row("one less, and again", of(x.undo(), x.rain(5), x.rain(5), x.harm(0, 12)), 11, 12, FULL, 50);
    }

    private static void strengths() {
        sentence("6: a STRENGTH (0 to 9)");
        RoofAcross x = street("00l", "0");
        row("within", of(x.rain(0), x.rain(9)), 1, 2);
        row("beyond", of(x.rain(-1), x.rain(10), x.rain(LEAST), x.rain(GREATEST)), BAD, BAD, BAD, BAD);
        row("behind it", of(x.count(3), x.harm(0, 1), x.harm(0, 2)), 2, 0, 9);
        x = street("00l", "0", TWELVE);
        row("BAD ahead of FULL", of(x.rain(-1), x.rain(10), x.rain(9)), BAD, BAD, FULL);
    }

    private static void readAsManyAsFit() {
        sentence("7: RAINS more, behind those that there are, from a SHEET, item by item");
        RoofAcross x = street("00l", "0", 7);
        fill(x, 0, 0, 3, 0, 9);
        due("three", x.read(0), 3);
        row("behind the one", of(x.harm(0, 1), x.harm(0, 2), x.harm(0, 3), x.harm(0, 4), x.count(3)), 7, 10, 10, 19, 4);
        row("the SHEET is as it was", items(x, 0, 0, 3), 3, 0, 9);
        x.sheet(1, 1, 0);
        row("an empty one", of(x.read(1), x.count(3)), 0, 4);
        for (int there = 0; there <= 12; there++) {
            for (int size : of(0, 1, 11, 12, 13, 48)) {
                RoofAcross y = street("00l", "0", java.util.Arrays.copyOf(TWELVE_NINES, there));
                y.sheet(2, 2, size);
                due(size + " items behind " + there, y.read(2), Math.min(size, 12 - there));
                due(size + " items behind " + there + ", in all", y.count(3), Math.min(12, there + size));
            }
        }
    }

    private static void readUpToARefusedItem() {
        sentence("7: as rain() takes them, up to the first that it refuses: how many it took");
        for (int wrong : of(-1, 10, 100, -128)) {
            for (int at = 0; at < 3; at++) {
                RoofAcross x = street("00l", "0", 5);
                fill(x, 3, 0, 9, 0, 4);
                x.put(3, 0, at, wrong);
                due(wrong + " at " + at, x.read(3), at);
                due(wrong + " at " + at + ", in all", x.count(3), 1 + at);
                due(wrong + " at " + at + ", a FINDING", x.count(8), 0);
            }
        }
        RoofAcross x = new RoofAcross();
        due("a LOST one", x.read(0), NULL);
        for (int s : of(-1, 4, LEAST, GREATEST)) {
            due("read(" + s + ")", x.read(s), BAD);
        }
        row("behind it", of(x.count(3), x.count(8)), 0, 1);
    }

    private static void readByForms() {
        sentence("7: items by the lowest bits that they have");
        int[] limits = {256, 65536};
        for (int form = 0; form < 2; form++) {
            RoofAcross x = street("00l", "0");
            fill(x, 0, form, limits[form] + 9, -limits[form], limits[form] + 10);
            row("form " + form, of(x.read(0), x.harm(0, 1), x.harm(0, 2)), 2, 9, 9);
        }
        RoofAcross x = new RoofAcross();
        fill(x, 0, 2, 9, 256 + 9);
        due("ints are whole", x.read(0), 1);
        fill(x, 0, 2, 65536 + 9);
        due("ints are whole", x.read(0), 0);
        fill(x, 0, 1, 256 + 9);
        due("shorts have 16 bits", x.read(0), 0);
    }

    private static void undoneRains() {
        sentence("8: The last RAIN is undone: how many are left. NOT: none");
        RoofAcross x = new RoofAcross();
        due("none", x.undo(), NOT);
        due("behind it", x.count(3), 0);
        x.rain(3);
        row("the only one", of(x.undo(), x.undo(), x.rain(4)), 0, NOT, 1);
        x = street("00l", "0", TWELVE);
        for (int left = 11; left >= 0; left--) {
            due("undo()", x.undo(), left);
            due("harm of " + left, x.harm(0, left), sum(left));
            due("harm of one more", x.harm(0, left + 1), BAD);
        }
        due("none is left", x.undo(), NOT);
        x = street("09g;09k", "10", 9, 9);
        due("thanks", x.laid(1, 2), 1);
        x.undo();
        x.undo();
        x.rain(9);
        due("no thanks for what is undone", x.laid(1, 1), 0);
    }

    private static int sum(int n) {
        int sum = 0;
        for (int i = 0; i < n; i++) {
            sum += TWELVE[i];
        }
        return sum;
    }

    private static void priceAndWear() {
        sentence("9: PRICE of a tile (1 to 9; 1 at first), WEAR (0, 1; 0 at first)");
        RoofAcross x = new RoofAcross();
        row("at first", of(x.count(6), x.count(7)), 1, 0);
        row("PRICE", of(x.set(0, 9), x.set(0, 1), x.set(0, 5), x.set(0, 5)), 1, 9, 1, 5);
        row("WEAR", of(x.set(1, 1), x.set(1, 1), x.set(1, 0), x.set(1, 1)), 0, 1, 1, 0);
        row("PRICE beyond", of(x.set(0, 0), x.set(0, 10), x.set(0, -1), x.set(0, LEAST), x.set(0, GREATEST)), BAD, BAD, BAD, BAD, BAD);
        row("WEAR beyond", of(x.set(1, -1), x.set(1, 2), x.set(1, LEAST), x.set(1, GREATEST)), BAD, BAD, BAD, BAD);
        for (int what : of(-1, 2, LEAST, GREATEST)) {
            due("set(" + what + ", 1)", x.set(what, 1), BAD);
        }
        row("behind it", of(x.count(6), x.count(7)), 5, 1);
        x = street("05k", "0", 9, 9);
        row("what was told before is told anew", of(x.tiles(0, 2), x.set(0, 3), x.tiles(0, 2), x.set(0, 6), x.tiles(0, 2)), 2, 1, 1, 3, 0);
        row("with a RAIN more", of(x.rain(9), x.set(0, 1), x.tiles(0, 2), x.tiles(0, 3)), 3, 6, 2, 3);
        row("with one less", of(x.undo(), x.set(0, 5), x.tiles(0, 2)), 2, 1, 1);
        x = street("50l", "0", 9, 9);
        row("and with WEAR", of(x.tiles(0, 2), x.set(1, 1), x.tiles(0, 2), x.set(1, 0), x.tiles(0, 2)), 5, 0, 3, 1, 5);
        row("with a RAIN more", of(x.rain(9), x.set(1, 1), x.tiles(0, 2), x.tiles(0, 3)), 3, 0, 3, 2);
    }

    private static void leaks() {
        sentence("a LEAK: STRENGTH less TILES of its roof, if that is above 0, else 0: that much HARM more");
        RoofAcross x = street("50l", "0", 4, 5, 6, 9, 0);
        row("harm", of(x.harm(0, 0), x.harm(0, 1), x.harm(0, 2), x.harm(0, 3), x.harm(0, 4), x.harm(0, 5)), 0, 0, 0, 1, 5, 5);
        x = street("00l;90l", "01", TWELVE_NINES);
        row("the most, the least", of(x.harm(0, 12), x.harm(1, 12)), 108, 0);
    }

    private static void allAtOnce() {
        sentence("Behind it who OWNS a roof lays one tile on it, all at once");
        RoofAcross x = street("09k;09g", "10", 1, 1);
        row("a tile of this RAIN helps in the next one", of(x.tiles(0, 1), x.tiles(1, 1), x.tiles(0, 2), x.tiles(1, 2)), 0, 1, 1, 1);
        x = street("09k;09k", "10", 9);
        row("both", of(x.tiles(0, 1), x.tiles(1, 1), x.purse(0, 1), x.purse(1, 1), x.harm(0, 1)), 1, 1, 8, 8, 9);
        x = street("09k", "0", 9);
        row("one alone, however wet", of(x.laid(0, 1), x.tiles(0, 1)), 1, 1);
        x = street("03k;00l;00l", "120", 9);
        row("by its owner's purse", of(x.tiles(0, 1), x.tiles(1, 1), x.tiles(2, 1), x.purse(0, 1)), 0, 1, 0, 2);
    }

    private static void thePrice() {
        sentence("if the PURSE has the PRICE (that is paid)");
        for (int price = 1; price <= 9; price++) {
            RoofAcross x = street("0" + price + "k", "0", 9);
            x.set(0, price);
            row("just enough for " + price, of(x.laid(0, 1), x.tiles(0, 1), x.purse(0, 1)), 1, 1, 0);
            x = street("0" + (price - 1) + "k", "0", 9);
            x.set(0, price);
            row("one too few for " + price, of(x.laid(0, 1), x.tiles(0, 1), x.purse(0, 1)), 0, 0, price - 1);
        }
        RoofAcross x = street("05k", "0", 9, 9, 9);
        x.set(0, 2);
        row("what is left", of(x.purse(0, 1), x.purse(0, 2), x.purse(0, 3), x.laid(0, 3)), 3, 1, 1, 2);
    }

    private static void nineTiles() {
        sentence("the roof has fewer than 9 TILES");
        RoofAcross x = street("89k", "0", 9, 9);
        row("8, then 9", of(x.tiles(0, 0), x.tiles(0, 1), x.tiles(0, 2), x.purse(0, 2), x.laid(0, 2)), 8, 9, 9, 8, 1);
        x = street("99k", "0", TWELVE_NINES);
        row("9", of(x.tiles(0, 12), x.purse(0, 12), x.laid(0, 12), x.harm(0, 12)), 9, 9, 0, 0);
        x = street("09k", "0", TWELVE_NINES);
        row("from 0 to 9", of(x.tiles(0, 9), x.tiles(0, 12), x.purse(0, 12), x.laid(0, 12), x.harm(0, 12)), 9, 9, 0, 9, 45);
    }

    private static void whoKeeps() {
        sentence("who keeps, if its HOUSE has a LEAK");
        row("a LEAK of 0, of 1", of(street("59k", "0", 5).laid(0, 1), street("59k", "0", 6).laid(0, 1)), 0, 1);
        RoofAcross x = street("99k;00l", "10", 1);
        row("of the roof that is OWNED", of(x.laid(0, 1), x.laid(1, 1)), 0, 1);
    }

    private static void whoFears() {
        sentence("who fears, if that is 3 at least");
        row("a LEAK of 2, of 3, of 4", of(street("59f", "0", 7).laid(0, 1), street("59f", "0", 8).laid(0, 1), street("59f", "0", 9).laid(0, 1)), 0, 1, 1);
        RoofAcross x = street("09f;90l", "10", 9);
        row("of the roof that is OWNED", of(x.laid(0, 1), x.laid(1, 1)), 0, 0);
    }

    private static void whoHasAGrudge() {
        sentence("who has a grudge, if it has one, and besides either one's own HOUSE has none in this RAIN");
        row("its LEAK 0, 1", of(street("59g;50l", "10", 5).laid(1, 1), street("59g;40l", "10", 5).laid(1, 1)), 0, 1);
        row("one's own 0, 1", of(street("59g;00l", "10", 5).laid(1, 1), street("49g;00l", "10", 5).laid(1, 1)), 1, 0);
        RoofAcross x = street("49g;00l", "10", 4, 5, 4);
        row("in this RAIN alone", of(x.laid(1, 1), x.laid(1, 2), x.laid(1, 3)), 1, 1, 2);
        x = street("09g", "0", TWELVE);
        row("who OWNS one's own", of(x.laid(0, 12), x.harm(0, 12)), 0, 54);
    }

    private static void whoThanks() {
        sentence("or a tile was laid on the roof of one's own HOUSE behind the RAIN ahead of this one");
        RoofAcross x = street("09g;09k", "10", 9, 9, 9);
        row("none ahead, then one", of(x.laid(1, 1), x.laid(1, 2), x.laid(1, 3)), 0, 1, 2);
        x = street("09g;01k", "10", 9, 9, 9);
        row("two RAINS ahead is too long", of(x.laid(1, 1), x.laid(1, 2), x.laid(1, 3)), 0, 1, 1);
        x = street("09g;01k", "10", 9, 0, 9);
        row("with a dry one between", of(x.laid(1, 1), x.laid(1, 2), x.laid(1, 3)), 0, 0, 0);
        x = street("09g;91k", "10", 9, 9);
        row("thanks, but its roof is dry", of(x.laid(0, 1), x.laid(1, 2)), 1, 0);
        x = street("00g;09k", "10", 9, 9);
        row("thanks, but no coin", of(x.laid(0, 1), x.laid(1, 2)), 1, 0);
        x = street("09g;09l;02k", "120", 9, 9, 9);
        row("thanks for one's own roof alone", of(x.laid(0, 2), x.laid(1, 2), x.laid(1, 3), x.laid(2, 3)), 2, 1, 2, 0);
    }

    private static void whoLetsBe() {
        sentence("who lets be, never");
        RoofAcross x = street("09l", "0", TWELVE_NINES);
        row("wet as can be", of(x.laid(0, 12), x.purse(0, 12), x.tiles(0, 12)), 0, 9, 0);
    }

    private static void wornTiles() {
        sentence("With WEAR each roof that leaked, and on which none was laid, has one tile less then, if it has any");
        RoofAcross x = street("20l", "0", 3, 3, 3, 3);
        row("without", of(x.tiles(0, 1), x.tiles(0, 4), x.harm(0, 4)), 2, 2, 4);
        x.set(1, 1);
        row("to none, and none less", of(x.tiles(0, 1), x.tiles(0, 2), x.tiles(0, 3), x.tiles(0, 4), x.harm(0, 4)), 1, 0, 0, 0, 9);
        x = street("30l", "0", 3, 2, 4);
        x.set(1, 1);
        row("none that did not leak", of(x.tiles(0, 1), x.tiles(0, 2), x.tiles(0, 3)), 3, 3, 2);
        x = street("01k", "0", 9, 9, 9);
        x.set(1, 1);
        row("none on which one was laid", of(x.tiles(0, 1), x.tiles(0, 2), x.tiles(0, 3), x.laid(0, 3)), 1, 0, 0, 1);
        x = street("80l", "0", 9, 9);
        x.set(1, 1);
        row("one alone, however wet", of(x.tiles(0, 1), x.tiles(0, 2)), 7, 6);
    }

    private static void behindSoManyRains() {
        sentence("10 to 13: behind k RAINS (0 to as many as are told)");
        for (int n : of(0, 1, 11, 12)) {
            RoofAcross x = street("35k;24g", "10", java.util.Arrays.copyOf(TWELVE, n));
            row("behind none of " + n, of(x.tiles(0, 0), x.purse(0, 0), x.harm(0, 0), x.laid(0, 0)), 3, 5, 0, 0);
            for (int k : of(-1, n + 1, 13, LEAST, GREATEST)) {
                row("k " + k + " of " + n, of(x.tiles(0, k), x.purse(0, k), x.harm(0, k), x.laid(0, k)), BAD, BAD, BAD, BAD);
            }
            for (int house : of(-1, 2, 8, LEAST, GREATEST)) {
                row("house " + house, of(x.tiles(house, n), x.purse(house, n), x.harm(house, n), x.laid(house, n)), BAD, BAD, BAD, BAD);
            }
        }
        // rains of 3 to 7 bring a tile on roof 1, by who keeps; those of 4 to 7 one on roof 0, in thanks
        RoofAcross x = street("35k;24g", "10", TWELVE);
        row("tiles of 0", of(x.tiles(0, 4), x.tiles(0, 5), x.tiles(0, 6), x.tiles(0, 11), x.tiles(0, 12)), 3, 4, 5, 7, 7);
        row("tiles of 1", of(x.tiles(1, 3), x.tiles(1, 4), x.tiles(1, 5), x.tiles(1, 11), x.tiles(1, 12)), 2, 3, 4, 7, 7);
        row("behind all", of(x.purse(0, 12), x.purse(1, 12), x.laid(0, 12), x.laid(1, 12)), 0, 0, 4, 5);
    }

    private static void allTogether() {
        sentence("14: All together behind k RAINS: TILES (0), PURSES (1), HARM (2), LAID (3)");
        RoofAcross x = street("99k;99k;99k;99k;99k;99k;99k;99k", "");
        row("the most tiles and coins", of(x.all(0, 0), x.all(0, 1), x.all(0, 2), x.all(0, 3)), 72, 72, 0, 0);
        x = street("00l;00l;00l;00l;00l;00l;00l;00l", "", TWELVE_NINES);
        row("the most harm", of(x.all(12, 0), x.all(12, 1), x.all(12, 2), x.all(12, 3), x.all(11, 2)), 0, 0, 864, 0, 792);
        x = street("09k;09k;09k;09k;09k;09k;09k;09k", "", TWELVE_NINES);
        row("the most laid", of(x.all(12, 0), x.all(12, 1), x.all(12, 2), x.all(12, 3)), 72, 0, 360, 72);
        for (int what : of(-1, 4, LEAST, GREATEST)) {
            due("all(0, " + what + ")", x.all(0, what), BAD);
        }
        for (int k : of(-1, 13, LEAST, GREATEST)) {
            due("all(" + k + ", 2)", x.all(k, 2), BAD);
        }
        x = new RoofAcross();
        row("of no HOUSES", of(x.all(0, 0), x.all(1, 0), x.rain(9), x.all(1, 2), x.all(2, 2)), 0, BAD, 1, 0, BAD);
    }

    private static void ringsOfOneToEight() {
        sentence("15: RING of a HOUSE: itself, whose roof it OWNS, whose that one OWNS, and so on, as bits; how many");
        for (int n = 1; n <= 8; n++) {
            RoofAcross own = street(houses(n), "01234567".substring(0, n));
            RoofAcross whole = street(houses(n), "12345670".substring(0, n - 1) + "0");
            for (int h = 0; h < n; h++) {
                row("itself alone", of(own.ring(h, 0), own.ring(h, 1), own.count(4)), 1 << h, 1, n);
                row("all " + n, of(whole.ring(h, 0), whole.ring(h, 1), whole.count(4)), (1 << n) - 1, n, 1);
            }
            row("no such house", of(own.ring(-1, 0), own.ring(n, 0), own.ring(LEAST, 1), own.ring(GREATEST, 1)), BAD, BAD, BAD, BAD);
            row("no such thing", of(own.ring(0, -1), own.ring(0, 2), own.ring(0, LEAST), own.ring(0, GREATEST)), BAD, BAD, BAD, BAD);
        }
        due("no RINGS", new RoofAcross().count(4), 0);
    }

    private static void dryRingsOfFive() {
        sentence("16: TEMPERS of all HOUSES of a RING of 5 at most (else FULL)");
        for (int n = 1; n <= 8; n++) {
            RoofAcross x = street(houses(n), "");
            for (int h = 0; h < n; h++) {
                row("a RING of " + n, of(x.dry(h, 0, 0), x.dry(h, 99, 1)), n > 5 ? FULL : 1 << 2 * n, n > 5 ? FULL : 0);
            }
        }
        RoofAcross x = street(EIGHT, "12340675");
        row("of 5 and of 3", of(x.dry(0, 0, 0), x.dry(4, 0, 0), x.dry(5, 0, 0), x.dry(7, 0, 0)), 1024, 1024, 64, 64);
        x = street(EIGHT, "12345076");
        row("of 6 and of 2", of(x.dry(0, 0, 0), x.dry(5, 0, 1), x.dry(6, 0, 0), x.dry(7, 0, 0)), FULL, FULL, 16, 16);
        row("BAD ahead of FULL", of(x.dry(0, -1, 0), x.dry(0, 100, 0), x.dry(0, 0, -1), x.dry(0, 0, 2)), BAD, BAD, BAD, BAD);
        row("no such house", of(x.dry(-1, 0, 0), x.dry(8, 0, 0), x.dry(LEAST, 0, 0), x.dry(GREATEST, 0, 0)), BAD, BAD, BAD, BAD);
    }

    private static void dryHarm() {
        sentence("16: by which no HOUSE of it has more HARM than told (0 to 99) behind all RAINS");
        RoofAcross x = street("00l", "0", 5);
        row("just as much", of(x.dry(0, 5, 0), x.dry(0, 5, 1)), 4, 0);
        row("one less", of(x.dry(0, 4, 0), x.dry(0, 4, 1)), 0, NONE);
        x = street("50l", "0", 5);
        row("none at all", of(x.dry(0, 0, 0), x.dry(0, 0, 1)), 4, 0);
        x = street("00l", "0", 9, 9, 9, 9, 9, 9, 9, 9, 9, 9, 9);
        row("99", of(x.dry(0, 99, 0), x.dry(0, 98, 0)), 4, 0);
        x.rain(1);
        row("100 behind all", of(x.dry(0, 99, 0), x.dry(0, 99, 1), x.harm(0, 12)), 0, NONE, 100);
        x.undo();
        due("99 again", x.dry(0, 99, 0), 4);
        for (int harm : of(-1, 100, LEAST, GREATEST)) {
            row("harm " + harm, of(x.dry(0, harm, 0), x.dry(0, harm, 1)), BAD, BAD);
        }
        for (int what : of(-1, 2, LEAST, GREATEST)) {
            due("what " + what, x.dry(0, 5, what), BAD);
        }
        x = street("00l;30l", "10", 5);
        row("no HOUSE of it", of(x.dry(0, 4, 0), x.dry(1, 4, 0), x.dry(0, 5, 0), x.dry(1, 5, 0)), 0, 0, 16, 16);
        x = street("00l;30l", "01", 5);
        row("of it alone", of(x.dry(0, 4, 0), x.dry(1, 2, 0), x.dry(1, 1, 0)), 0, 4, 0);
    }

    private static void dryRows() {
        sentence("16: how many rows (what = 0), the first (1; NONE), all others as told");
        RoofAcross x = street("01k;01k;01k;01k;01k", "12340", 1, 2, 3, 1, 1);
        x.set(1, 1);
        row("one row of five", of(x.dry(0, 6, 0), x.dry(0, 6, 1), x.dry(4, 6, 0), x.dry(4, 6, 1)), 1, 682, 1, 682);
        row("none", of(x.dry(0, 5, 0), x.dry(0, 5, 1)), 0, NONE);
        row("all", of(x.dry(0, 8, 0), x.dry(0, 8, 1)), 1024, 0);
        row("TEMPERS are as told behind it", of(x.house(0, 2), x.house(4, 2), x.harm(0, 5), x.tiles(0, 5)), 0, 0, 7, 0);
    }

    private static void dryNumbers() {
        sentence("16: TEMPERS by numbers of HOUSES; as a number: 4 times so far and the next one");
        RoofAcross x = street("90l;91k;90l;00k", "0321", 1, 2, 3, 1, 1);
        x.set(1, 1);
        row("the lesser number leads", of(x.dry(1, 6, 0), x.dry(1, 6, 1), x.dry(3, 6, 0), x.dry(3, 6, 1)), 4, 8, 4, 8);
        row("a RING of one", of(x.dry(0, 0, 0), x.dry(2, 0, 1)), 4, 0);
        x = street("90l;00k;90l;91k", "0321", 1, 2, 3, 1, 1);
        x.set(1, 1);
        row("the greater one is last", of(x.dry(1, 6, 0), x.dry(1, 6, 1), x.dry(3, 6, 1)), 4, 2, 2);
    }

    private static void dryByGrudges() {
        sentence("16: TEMPERS of all HOUSES of a RING, a grudge among them");
        // each g lays one RAIN later than who OWNS its own roof; f and l never do; g alone neither
        RoofAcross x = street("09l;09l;09l", "120", 2, 2, 2, 2);
        int[] rows = {0, 0, 0, 1, 1, 4, 4, 7, 64};
        for (int harm = 0; harm < rows.length; harm++) {
            row("harm " + harm, of(x.dry(0, harm, 0), x.dry(2, harm, 1)), rows[harm], rows[harm] == 0 ? NONE : 0);
        }
        // who waits for thanks lays behind the second RAIN, and what is laid lasts till the last one
        x = street("11l;01l", "10", 3, 3, 1, 1);
        x.set(1, 1);
        row("0 has a grudge, 1 keeps", of(x.dry(0, 5, 0), x.dry(0, 6, 0), x.dry(0, 6, 1), x.dry(0, 7, 0), x.dry(0, 7, 1)), 0, 1, 4, 10, 0);
        x = street("01l;11l", "10", 3, 3, 1, 1);
        x.set(1, 1);
        row("0 keeps, 1 has a grudge", of(x.dry(1, 5, 1), x.dry(1, 6, 0), x.dry(1, 6, 1), x.dry(1, 7, 0)), NONE, 1, 1, 10);
    }

    private static void dryAnew() {
        sentence("16: of another RING, of more HARM, of other RAINS or texts");
        RoofAcross x = street("90l;00l;90l;00l", "0321", 5);
        row("a RING, then another", of(x.dry(1, 4, 0), x.dry(0, 4, 0), x.dry(2, 4, 0), x.dry(3, 4, 0)), 0, 4, 4, 0);
        row("more HARM, then less", of(x.dry(1, 5, 0), x.dry(1, 4, 0), x.dry(1, 5, 1), x.dry(1, 4, 1)), 16, 0, 0, NONE);
        x.wipe(1);
        row("other LOTS", of(x.dry(1, 4, 0), x.dry(1, 5, 0)), 0, 256);
        x = street("00l", "0");
        due("no RAIN", x.dry(0, 0, 0), 4);
        x.type(1, '0');
        x.rain(1);
        due("a RAIN and a byte more", x.dry(0, 0, 0), 0);
    }
}
