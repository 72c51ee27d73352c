/** Each promise of the document: ordinary inputs, the edges that it names, and wrong inputs. */
final class PromisesTest extends Streets {
    public static void main(String[] args) {
        begin(PromisesTest.class);
        newObject();
        typeBytes();
        wipeTexts();
        faultOfHouses();
        faultOfLots();
        houseAsTold();
        rainsAndUndo();
        readRains();
        setPriceAndWear();
        behindRains();
        temperRules();
        allTogether();
        rings();
        dryRings();
        wishesAndWants();
        markets();
        bests();
        factsAndCould();
        asks();
        handsAhead();
        claimsAndLiars();
        sheetAndLose();
        putAndGet();
        copies();
        writes();
        counts();
        digests();
        answersFollowChanges();
        refusalsChangeNothing();
        end();
    }

    private static void state(RoofAcross x, int k, int[] tiles, int[] purse, int[] harm, int[] laid) {
        for (int h = 0; h < tiles.length; h++) {
            due("tiles(" + h + ", " + k + ")", x.tiles(h, k), tiles[h]);
            due("purse(" + h + ", " + k + ")", x.purse(h, k), purse[h]);
            due("harm(" + h + ", " + k + ")", x.harm(h, k), harm[h]);
            due("laid(" + h + ", " + k + ")", x.laid(h, k), laid[h]);
        }
    }

    private static void newObject() {
        sentence("1 new object");
        RoofAcross x = new RoofAcross();
        int[] counts = {0, 0, 0, 0, 0, 0, 1, 0, 0};
        for (int what = 0; what < counts.length; what++) {
            due("count(" + what + ")", x.count(what), counts[what]);
        }
        for (int h = 0; h < 8; h++) {
            due("house", x.house(h, 0), BAD);
            due("claim", x.claim(h, NONE), NONE);
            for (int r = 0; r < 8; r++) {
                due("wish", x.wish(h, r, 0), 0);
            }
        }
        for (int s = 0; s < 4; s++) {
            due("lose(" + s + ")", x.lose(s), NULL);
        }
        due("NONE", NONE, -1);
        due("BAD", BAD, -2);
        due("NOT", NOT, -3);
        due("FULL", FULL, -4);
    }

    private static void typeBytes() {
        sentence("2 type");
        RoofAcross x = new RoofAcross();
        for (int n = 1; n <= 40; n++) {
            due("type(0, 0)", x.type(0, 0), n);
        }
        for (int n = 1; n <= 10; n++) {
            due("type(1, 255)", x.type(1, 255), n);
        }
        due("type of a full text", x.type(0, 48), FULL);
        due("type of full lots", x.type(1, 48), FULL);
        due("BAD ahead of FULL", x.type(0, 256), BAD);
        due("count(1)", x.count(1), 40);
        due("count(2)", x.count(2), 10);
        for (int bad : of(-1, 2, LEAST, GREATEST)) {
            due("type(" + bad + ", 48)", x.type(bad, 48), BAD);
        }
        for (int bad : of(-1, 256, LEAST, GREATEST)) {
            due("type(1, " + bad + ")", x.type(1, bad), BAD);
        }
    }

    private static void wipeTexts() {
        sentence("3 wipe");
        RoofAcross x = street("35k;24g", "10", 5);
        due("wipe(1)", x.wipe(1), 2);
        due("wipe(1)", x.wipe(1), 0);
        due("count(0)", x.count(0), 2);
        due("wipe(0)", x.wipe(0), 7);
        due("count(0)", x.count(0), 0);
        due("count(1)", x.count(1), 0);
        due("rains stay", x.count(3), 1);
        for (int bad : of(-1, 2, LEAST, GREATEST)) {
            due("wipe(" + bad + ")", x.wipe(bad), BAD);
        }
    }

    private static void faultOfHouses() {
        sentence("4 fault");
        String[] texts = {
            "", "35k", "35k;24g", "00k;11g;22f;33l;44k;55g;66f;77l", "3", "35", "35k;", "x", "3x", "35x", "35kk", "35k;;",
            "k", ";", "35;", "/5k", ":5k", "3/k", "3:k", "35k;x", "35K", EIGHT + ";", EIGHT + ";0", EIGHT + ";00k", EIGHT + ";x",
            EIGHT + "x", "35" + (char) 0, "35" + (char) 235, "35k;24g;", "35k;2;4g", "x5k;24g", "35k;24g;99", "35k24g"
        };
        int[] faults = {
            NONE, NONE, NONE, NONE, 1, 2, 4, 0, 1, 2, 3, 4,
            0, 0, 2, 0, 0, 1, 1, 4, 2, 32, 32, 32, 32,
            31, 2, 2, 8, 5, 0, 10, 3
        };
        for (int i = 0; i < texts.length; i++) {
            RoofAcross x = street(texts[i], "");
            due("fault(0) of " + texts[i], x.fault(0), faults[i]);
            due("houses of " + texts[i], x.count(0), faults[i] == NONE ? (texts[i].length() + 1) / 4 : 0);
        }
        for (int bad : of(-1, 2, LEAST, GREATEST)) {
            due("fault(" + bad + ")", new RoofAcross().fault(bad), BAD);
        }
    }

    private static void faultOfLots() {
        sentence("4 fault");
        String three = "35k;24g;12f";
        String[][] texts = {
            {three, "120"}, {three, "012"}, {three, ""}, {three, "1"}, {three, "12"}, {three, "1200"}, {three, "11"}, {three, "13"},
            {three, "x"}, {three, "1x"}, {three, "/"}, {three, ":"}, {three, "3"}, {"", ""}, {"", "0"}, {"35", ""}, {"35", "0"},
            {EIGHT, "76543210"}, {EIGHT, "8"}, {EIGHT, "765432109"}, {three, "021x"}, {three, "100"}
        };
        int[] faults = {NONE, NONE, 0, 1, 2, 3, 1, 1, 0, 1, 0, 0, 0, NONE, 0, NONE, 0, NONE, 0, 8, 3, 2};
        for (int i = 0; i < texts.length; i++) {
            due("fault(1) of " + texts[i][0] + " " + texts[i][1], street(texts[i][0], texts[i][1]).fault(1), faults[i]);
        }
    }

    private static void houseAsTold() {
        sentence("5 house");
        RoofAcross x = street("35k;24g;19f;90l", "2031", 9, 9);
        int[][] told = {{3, 5, 0, 2, 1}, {2, 4, 1, 0, 3}, {1, 9, 2, 3, 0}, {9, 0, 3, 1, 2}};
        for (int h = 0; h < 4; h++) {
            for (int what = 0; what < 5; what++) {
                due("house(" + h + ", " + what + ")", x.house(h, what), told[h][what]);
            }
        }
        x.type(1, '0');
        row("owned, with a fault", of(x.house(0, 3), x.house(1, 3), x.house(2, 3), x.house(3, 3)), 1, 2, 3, 0);
        row("owners, with a fault", of(x.house(0, 4), x.house(1, 4), x.house(2, 4), x.house(3, 4)), 3, 0, 1, 2);
        due("one house owns its own", street("11k", "").house(0, 3), 0);
        for (int bad : of(-1, 4, 8, LEAST, GREATEST)) {
            due("house(" + bad + ", 0)", x.house(bad, 0), BAD);
        }
        for (int bad : of(-1, 5, LEAST, GREATEST)) {
            due("house(0, " + bad + ")", x.house(0, bad), BAD);
        }
    }

    private static void rainsAndUndo() {
        sentence("6 rain, 8 undo");
        RoofAcross x = new RoofAcross();
        due("undo()", x.undo(), NOT);
        for (int n = 1; n <= 12; n++) {
            due("rain", x.rain(n % 10), n);
        }
        due("a thirteenth", x.rain(0), FULL);
        due("BAD ahead of FULL", x.rain(10), BAD);
        due("undo()", x.undo(), 11);
        for (int bad : of(-1, 10, LEAST, GREATEST)) {
            due("rain(" + bad + ")", x.rain(bad), BAD);
        }
        for (int left = 10; left >= 0; left--) {
            due("undo()", x.undo(), left);
        }
        due("undo()", x.undo(), NOT);
        x = street("00l", "", 5, 7);
        due("harm", x.harm(0, 2), 12);
        x.undo();
        x.rain(1);
        due("harm with another rain", x.harm(0, 2), 6);
    }

    private static void readRains() {
        sentence("7 read");
        RoofAcross x = street("00l", "");
        x.sheet(0, 0, 5);
        int[] items = {3, 9, 0, 10, 4};
        for (int i = 0; i < items.length; i++) {
            x.put(0, 0, i, items[i]);
        }
        due("read up to 10", x.read(0), 3);
        due("harm", x.harm(0, 3), 12);
        x.put(0, 0, 3, -1);
        due("read up to -1", x.read(0), 3);
        x.put(0, 0, 3, 9);
        due("read all", x.read(0), 5);
        due("read till full", x.read(0), 1);
        due("read when full", x.read(0), 0);
        due("count(3)", x.count(3), 12);
        x.sheet(1, 2, 0);
        due("read of no items", x.read(1), 0);
        due("read of a lost one", x.read(2), NULL);
        due("count(8)", x.count(8), 1);
        for (int bad : of(-1, 4, LEAST, GREATEST)) {
            due("read(" + bad + ")", x.read(bad), BAD);
        }
    }

    private static void setPriceAndWear() {
        sentence("9 set");
        RoofAcross x = new RoofAcross();
        due("set(0, 9)", x.set(0, 9), 1);
        due("set(0, 1)", x.set(0, 1), 9);
        due("set(1, 1)", x.set(1, 1), 0);
        due("set(1, 0)", x.set(1, 0), 1);
        x.set(0, 7);
        for (int bad : of(-1, 0, 10, LEAST, GREATEST)) {
            due("set(0, " + bad + ")", x.set(0, bad), BAD);
        }
        for (int bad : of(-1, 2, LEAST, GREATEST)) {
            due("set(1, " + bad + ")", x.set(1, bad), BAD);
            due("set(" + bad + ", 1)", x.set(bad, 1), BAD);
        }
        due("count(6)", x.count(6), 7);
        due("count(7)", x.count(7), 0);
    }

    private static void behindRains() {
        sentence("10 tiles, 11 purse, 12 harm, 13 laid");
        RoofAcross x = street("35k;24g;12f", "120", 4, 6);
        state(x, 0, of(3, 2, 1), of(5, 4, 2), of(0, 0, 0), of(0, 0, 0));
        state(x, 1, of(3, 3, 1), of(4, 4, 2), of(1, 2, 3), of(0, 1, 0));
        state(x, 2, of(4, 4, 2), of(3, 3, 1), of(4, 5, 8), of(1, 2, 1));
        x.set(1, 1);
        state(x, 1, of(2, 3, 0), of(4, 4, 2), of(1, 2, 3), of(0, 1, 0));
        state(x, 2, of(3, 4, 1), of(3, 3, 1), of(5, 5, 9), of(1, 2, 1));
        x.set(1, 0);
        x.set(0, 3);
        state(x, 1, of(3, 3, 1), of(2, 4, 2), of(1, 2, 3), of(0, 1, 0));
        state(x, 2, of(3, 3, 2), of(2, 1, 2), of(4, 5, 8), of(0, 1, 1));
        for (int bad : of(-1, 3, 8, LEAST, GREATEST)) {
            row("wrong house " + bad, of(x.tiles(bad, 0), x.purse(bad, 0), x.harm(bad, 0), x.laid(bad, 0)), BAD, BAD, BAD, BAD);
        }
        for (int bad : of(-1, 3, 12, LEAST, GREATEST)) {
            row("wrong k " + bad, of(x.tiles(0, bad), x.purse(0, bad), x.harm(0, bad), x.laid(0, bad)), BAD, BAD, BAD, BAD);
        }
    }

    private static void temperRules() {
        sentence("2 A RAIN");
        due("who fears, 2", street("09f", "0", 2).laid(0, 1), 0);
        due("who fears, 3", street("09f", "0", 3).laid(0, 1), 1);
        due("who keeps, 1", street("09k", "0", 1).laid(0, 1), 1);
        due("who keeps, 0", street("19k", "0", 1).laid(0, 1), 0);
        due("who lets be", street("09l", "0", 9).laid(0, 1), 0);
        due("an empty purse", street("00k", "0", 9).laid(0, 1), 0);
        due("a grudge with one's own dry", street("99g;00k", "10", 1).laid(1, 1), 1);
        due("a grudge with no leak there", street("99g;50k", "10", 1).laid(1, 1), 0);
        due("a grudge with one's own wet", street("09g;00l", "10", 1).laid(1, 1), 0);
        RoofAcross x = street("09g;09k", "10", 9, 9, 9);
        row("thanks a rain later", of(x.laid(1, 1), x.laid(1, 2), x.laid(1, 3)), 0, 1, 2);
        x = street("09g;01k", "10", 9, 9, 9);
        row("thanks for the rain ahead alone", of(x.laid(1, 1), x.laid(1, 2), x.laid(1, 3)), 0, 1, 1);
        x = street("09g;01k", "10", 9, 0, 9);
        due("a dry rain between", x.laid(1, 3), 0);
        x = street("09l", "0", 9, 9, 9);
        x.set(1, 1);
        due("no tile less than none", x.tiles(0, 3), 0);
        x = street("30l", "0", 3, 4, 4, 2);
        x.set(1, 1);
        row("wear", of(x.tiles(0, 1), x.tiles(0, 2), x.tiles(0, 3), x.tiles(0, 4)), 3, 2, 1, 0);
        due("the price to the last coin", street("02k", "0", 1, 2, 3).purse(0, 3), 0);
    }

    private static void allTogether() {
        sentence("14 all");
        RoofAcross x = street("35k;24g;12f", "120", 4, 6);
        row("all(0, ..)", of(x.all(0, 0), x.all(0, 1), x.all(0, 2), x.all(0, 3)), 6, 11, 0, 0);
        row("all(1, ..)", of(x.all(1, 0), x.all(1, 1), x.all(1, 2), x.all(1, 3)), 7, 10, 6, 1);
        row("all(2, ..)", of(x.all(2, 0), x.all(2, 1), x.all(2, 2), x.all(2, 3)), 10, 7, 17, 4);
        due("of no houses", new RoofAcross().all(0, 2), 0);
        for (int bad : of(-1, 3, LEAST, GREATEST)) {
            due("all(" + bad + ", 0)", x.all(bad, 0), BAD);
        }
        for (int bad : of(-1, 4, LEAST, GREATEST)) {
            due("all(0, " + bad + ")", x.all(0, bad), BAD);
        }
    }

    private static void rings() {
        sentence("15 ring");
        RoofAcross x = street(EIGHT, "23410756");
        int[] bits = {21, 10, 21, 10, 21, 224, 224, 224};
        int[] sizes = {3, 2, 3, 2, 3, 3, 3, 3};
        for (int h = 0; h < 8; h++) {
            due("ring(" + h + ", 0)", x.ring(h, 0), bits[h]);
            due("ring(" + h + ", 1)", x.ring(h, 1), sizes[h]);
        }
        due("one's own roof", street("11k;22k", "01").ring(1, 0), 2);
        due("by a fault all", street(EIGHT, "x").ring(5, 0), 255);
        for (int bad : of(-1, 8, LEAST, GREATEST)) {
            due("ring(" + bad + ", 0)", x.ring(bad, 0), BAD);
        }
        for (int bad : of(-1, 2, LEAST, GREATEST)) {
            due("ring(0, " + bad + ")", x.ring(0, bad), BAD);
        }
    }

    private static void dryRings() {
        sentence("16 dry");
        RoofAcross x = street("05l", "0", 1, 1);
        row("one house", of(x.dry(0, 0, 0), x.dry(0, 0, 1), x.dry(0, 1, 0), x.dry(0, 1, 1), x.dry(0, 2, 0)), 0, NONE, 1, 0, 4);
        x = street("01k", "0", 1, 2, 3, 1, 1);
        x.set(1, 1);
        row("who fears is best", of(x.dry(0, 6, 0), x.dry(0, 6, 1), x.dry(0, 7, 0), x.dry(0, 7, 1)), 1, 2, 2, 0);
        x = street("91k;00k", "10", 1, 2, 3, 1, 1);
        x.set(1, 1);
        row("the first house leads", of(x.dry(0, 6, 0), x.dry(0, 6, 1), x.dry(1, 6, 0), x.dry(1, 6, 1)), 4, 8, 4, 8);
        x = street("00k;91k", "10", 1, 2, 3, 1, 1);
        x.set(1, 1);
        row("the second one is last", of(x.dry(0, 6, 0), x.dry(0, 6, 1)), 4, 2);
        x.undo();
        due("dry behind an undone rain", x.dry(0, 6, 0), 12);
        due("harm is as told", x.harm(0, 4), 6);
        x = street("00k;00k;00k;00k;00k;00k", "123405");
        row("rings of 5, of 1", of(x.dry(0, 0, 0), x.dry(0, 0, 1), x.dry(5, 0, 0)), 1024, 0, 4);
        x = street("00k;00k;00k;00k;00k;00k", "");
        row("a ring of 6", of(x.dry(0, 99, 0), x.dry(5, 0, 1)), FULL, FULL);
        due("BAD ahead of FULL", x.dry(0, 100, 0), BAD);
        for (int bad : of(-1, 6, LEAST, GREATEST)) {
            due("dry(" + bad + ", 0, 0)", x.dry(bad, 0, 0), BAD);
        }
        for (int bad : of(-1, 100, LEAST, GREATEST)) {
            due("dry(0, " + bad + ", 0)", x.dry(0, bad, 0), BAD);
        }
        for (int bad : of(-1, 2, LEAST, GREATEST)) {
            due("dry(0, 0, " + bad + ")", x.dry(0, 0, bad), BAD);
        }
    }

    private static void wishesAndWants() {
        sentence("17 wish, 18 want");
        RoofAcross x = street("00k;00k;00k", "012");
        due("wish(7, 7, 9)", x.wish(7, 7, 9), 0);
        due("wish(7, 7, 0)", x.wish(7, 7, 0), 9);
        x.wish(0, 1, 5);
        due("one side alone", x.want(0, 1), 0);
        x.wish(1, 0, 5);
        due("both", x.want(0, 1), 1);
        due("both, told otherwise", x.want(1, 0), 1);
        x.wish(0, 0, 5);
        due("no more than one has", x.want(0, 1), 0);
        x.wish(0, 0, 4);
        due("one more", x.want(0, 1), 1);
        for (int bad : of(-1, 8, LEAST, GREATEST)) {
            row("wrong wishes", of(x.wish(bad, 0, 0), x.wish(0, bad, 0)), BAD, BAD);
        }
        for (int bad : of(-1, 10, LEAST, GREATEST)) {
            due("wish(0, 0, " + bad + ")", x.wish(0, 0, bad), BAD);
        }
        for (int bad : of(-1, 3, LEAST, GREATEST)) {
            row("wrong wants", of(x.want(bad, 0), x.want(0, bad), x.want(bad, bad)), BAD, BAD, BAD);
        }
        due("one with itself", x.want(1, 1), BAD);
        due("wishes stay", x.wish(0, 0, 0), 4);
    }

    private static void markets() {
        sentence("19 market");
        RoofAcross x = street("00k;00k;00k", "012");
        row("no wishes", of(x.market(NONE), x.market(-2), x.market(0), x.market(1), x.market(2)), 0, 0, 0, 1, 2);
        x.wish(0, 1, 9);
        x.wish(1, 2, 9);
        x.wish(2, 0, 9);
        row("three in a round", of(x.market(NONE), x.market(-2), x.market(0), x.market(1), x.market(2)), 0, 0, 0, 1, 2);
        x.wish(1, 0, 1);
        row("a first pair", of(x.market(NONE), x.market(-2), x.market(0), x.market(1), x.market(2)), 2, 27, 1, 2, 0);
        row("nothing is changed", of(x.house(0, 3), x.house(1, 3), x.house(2, 3)), 0, 1, 2);
        x = street("00k;00k;00k", "012");
        x.wish(0, 1, 1);
        x.wish(0, 2, 2);
        x.wish(1, 0, 1);
        x.wish(2, 0, 1);
        row("the lesser pair first", of(x.market(NONE), x.market(-2), x.market(0), x.market(1), x.market(2)), 1, 2, 1, 0, 2);
        for (int bad : of(-3, 3, LEAST, GREATEST)) {
            due("market(" + bad + ")", x.market(bad), BAD);
        }
        row("no houses", of(new RoofAcross().market(NONE), new RoofAcross().market(-2)), 0, 0);
    }

    private static void bests() {
        sentence("20 best");
        RoofAcross x = street("00k;00k;00k", "120");
        row("no wishes: the least row", of(x.best(NONE), x.best(0), x.best(1), x.best(2)), 0, 0, 1, 2);
        x.wish(0, 1, 9);
        x.wish(1, 2, 9);
        x.wish(2, 0, 9);
        row("three in a round", of(x.best(NONE), x.best(0), x.best(1), x.best(2)), 27, 1, 2, 0);
        x.wish(1, 1, 9);
        x.wish(2, 0, 0);
        x.wish(0, 2, 9);
        row("of like ones the least", of(x.best(NONE), x.best(0), x.best(1), x.best(2)), 18, 1, 2, 0);
        x.wish(0, 0, 9);
        row("a lesser row", of(x.best(NONE), x.best(0), x.best(1), x.best(2)), 18, 0, 1, 2);
        x = street(EIGHT, "");
        for (int h = 0; h < 8; h++) {
            x.wish(h, 7 - h, 9);
        }
        due("eight houses", x.best(NONE), 72);
        due("eight houses", x.best(2), 5);
        for (int bad : of(-2, 8, LEAST, GREATEST)) {
            due("best(" + bad + ")", x.best(bad), BAD);
        }
        due("no houses", new RoofAcross().best(NONE), 0);
    }

    private static void factsAndCould() {
        sentence("21 fact, 22 forget, 23 could");
        RoofAcross x = street("00k;00k;00k", "");
        row("no facts", of(x.could(NONE), x.could(0), x.could(2)), 6, 7, 7);
        due("fact(0, 0, 0)", x.fact(0, 0, 0), 1);
        row("0 not 0", of(x.could(NONE), x.could(0), x.could(1)), 4, 6, 7);
        due("fact(1, 2, 1)", x.fact(1, 2, 1), 2);
        row("1 has 2", of(x.could(NONE), x.could(0), x.could(1), x.could(2)), 1, 2, 4, 1);
        due("fact(3, 0, 0)", x.fact(3, 0, 0), 3);
        due("fact(0, 7, 0)", x.fact(0, 7, 0), 4);
        due("none that are there", x.could(NONE), 1);
        due("fact(0, 7, 1)", x.fact(0, 7, 1), 5);
        row("never so", of(x.could(NONE), x.could(0), x.could(1)), 0, 0, 0);
        due("forget()", x.forget(), 5);
        due("forget()", x.forget(), 0);
        x.fact(7, 0, 1);
        due("a house that is not there", x.could(NONE), 0);
        x.forget();
        x.fact(3, 0, 1);
        due("the first that is not there", x.could(NONE), 0);
        x.forget();
        x.fact(0, 1, 1);
        x.fact(1, 1, 1);
        due("two of one roof", x.could(NONE), 0);
        x.forget();
        x.fact(0, 1, 1);
        x.fact(0, 2, 1);
        due("two roofs of one", x.could(NONE), 0);
        x.forget();
        for (int n = 1; n <= 12; n++) {
            due("the same again", x.fact(0, 1, 1), n);
        }
        due("a thirteenth", x.fact(0, 1, 1), FULL);
        due("BAD ahead of FULL", x.fact(0, 1, 2), BAD);
        due("count(5)", x.count(5), 12);
        due("could", x.could(NONE), 2);
        for (int bad : of(-1, 8, LEAST, GREATEST)) {
            row("wrong facts", of(x.fact(bad, 0, 0), x.fact(0, bad, 0)), BAD, BAD);
        }
        for (int bad : of(-1, 2, LEAST, GREATEST)) {
            due("fact(0, 0, " + bad + ")", x.fact(0, 0, bad), BAD);
        }
        for (int bad : of(-2, 3, LEAST, GREATEST)) {
            due("could(" + bad + ")", x.could(bad), BAD);
        }
        due("all ways of eight", street(EIGHT, "").could(NONE), 40320);
        due("one way of none", new RoofAcross().could(NONE), 1);
        x = new RoofAcross();
        x.fact(0, 0, 1);
        due("never so without houses", x.could(NONE), 0);
        typeAll(x, 0, "00k;00k");
        due("so with houses", x.could(NONE), 1);
    }

    private static void asks() {
        sentence("24 ask");
        RoofAcross x = street("00k;00k;00k", "");
        row("all alike", of(x.ask(0), x.ask(1)), 0, 2);
        x.fact(0, 0, 1);
        row("not who is known", of(x.ask(0), x.ask(1)), 1, 1);
        x.forget();
        x.fact(0, 0, 0);
        x.fact(1, 0, 0);
        row("the least of like ones", of(x.ask(0), x.ask(1)), 0, 1);
        x = street("00k;00k;00k;00k", "");
        x.fact(1, 2, 1);
        x.fact(0, 1, 0);
        x.fact(3, 3, 0);
        row("three ways", of(x.ask(0), x.ask(1), x.could(NONE)), 2, 1, 3);
        x.fact(2, 2, 1);
        row("no ways", of(x.ask(0), x.ask(1)), NOT, NOT);
        row("no houses", of(new RoofAcross().ask(0), new RoofAcross().ask(1)), NOT, NOT);
        for (int bad : of(-1, 2, LEAST, GREATEST)) {
            due("ask(" + bad + ")", x.ask(bad), BAD);
        }
        due("eight houses", street(EIGHT, "").ask(1), 5040);
    }

    private static void handsAhead() {
        sentence("25 hands");
        RoofAcross x = street("09k;09k", "", 3, 1);
        int[] harm = {8, 6, 4, 3, 2, 1, 0, 0};
        int[] first = {0, 1, 1, 2, 3, 3, 3, 3};
        int[] second = {0, 0, 1, 1, 1, 2, 3, 3};
        for (int k = 0; k < harm.length; k++) {
            row("hands(" + k + ", ..)", of(x.hands(k, NONE), x.hands(k, 0), x.hands(k, 1)), harm[k], first[k], second[k]);
        }
        row("hands(72, ..)", of(x.hands(72, NONE), x.hands(72, 0), x.hands(72, 1)), 0, 3, 3);
        x = street("50l;20l", "", 9, 9, 4);
        x.set(1, 1);
        row("more where more is wet", of(x.hands(2, NONE), x.hands(2, 0), x.hands(2, 1)), 18, 5, 4);
        row("9 at most", of(x.hands(72, NONE), x.hands(72, 0), x.hands(72, 1)), 0, 9, 9);
        due("nothing is laid", x.tiles(1, 0), 2);
        for (int bad : of(-1, 73, LEAST, GREATEST)) {
            due("hands(" + bad + ", -1)", x.hands(bad, NONE), BAD);
        }
        for (int bad : of(-2, 2, LEAST, GREATEST)) {
            due("hands(0, " + bad + ")", x.hands(0, bad), BAD);
        }
        due("no houses", new RoofAcross().hands(72, NONE), 0);
    }

    private static void claimsAndLiars() {
        sentence("26 claim, 27 liars");
        RoofAcross x = street("00l;30l;90l", "", 4, 5);
        due("nobody claims", x.liars(), 0);
        due("claim(0, 9)", x.claim(0, 9), NONE);
        due("claim(1, 0)", x.claim(1, 0), NONE);
        due("claim(2, 0)", x.claim(2, 0), NONE);
        due("claim(7, 999)", x.claim(7, 999), NONE);
        due("claim(7, 0)", x.claim(7, 0), 999);
        due("1 lies", x.liars(), 2);
        due("claim(1, 3)", x.claim(1, 3), 0);
        due("nobody lies", x.liars(), 0);
        x.undo();
        due("0 and 1 lie now", x.liars(), 3);
        due("claim(0, NONE)", x.claim(0, NONE), 9);
        due("who says nothing lies not", x.liars(), 2);
        typeAll(x, 0, ";00l;00l;00l;00l;00l");
        due("who is there now", x.liars(), 2 | 128);
        for (int bad : of(-1, 8, LEAST, GREATEST)) {
            due("claim(" + bad + ", 0)", x.claim(bad, 0), -5);
        }
        for (int bad : of(-2, 1000, LEAST, GREATEST)) {
            due("claim(0, " + bad + ")", x.claim(0, bad), -5);
        }
        due("claims stay", x.claim(0, NONE), NONE);
    }

    private static void sheetAndLose() {
        sentence("28 sheet, 29 lose");
        RoofAcross x = new RoofAcross();
        due("sheet(0, 0, 48)", x.sheet(0, 0, 48), 48);
        due("sheet(3, 2, 0)", x.sheet(3, 2, 0), 0);
        x.put(0, 0, 47, 5);
        due("sheet(0, 1, 47)", x.sheet(0, 1, 47), 47);
        due("sheet(0, 1, 48)", x.sheet(0, 1, 48), 48);
        due("new items", x.get(0, 1, 47), 0);
        due("SIZE", x.sheet(0, 2, -1), SIZE);
        due("count(8)", x.count(8), 5);
        due("it stays", x.get(0, 1, 0), 0);
        due("SIZE of the least", x.sheet(1, 0, LEAST), SIZE);
        due("still lost", x.lose(1), NULL);
        due("count(8)", x.count(8), 1);
        due("lose(0)", x.lose(0), 48);
        due("lose(3)", x.lose(3), 0);
        due("lose(3)", x.lose(3), NULL);
        due("BAD ahead of SIZE", x.sheet(0, 3, -1), BAD);
        for (int bad : of(-1, 4, LEAST, GREATEST)) {
            row("wrong sheets", of(x.sheet(bad, 0, 0), x.sheet(bad, 0, -1), x.lose(bad)), BAD, BAD, BAD);
        }
        for (int bad : of(-1, 3, LEAST, GREATEST)) {
            due("sheet(0, " + bad + ", 0)", x.sheet(0, bad, 0), BAD);
        }
        for (int bad : of(49, GREATEST)) {
            due("sheet(0, 0, " + bad + ")", x.sheet(0, 0, bad), BAD);
        }
    }

    private static void putAndGet() {
        sentence("30 put, 31 get");
        RoofAcross x = new RoofAcross();
        for (int form = 0; form < 3; form++) {
            x.sheet(form, form, 3);
        }
        int[] put = {0, 127, 128, 255, 256, -129, 32767, 32768, -32769, 65535, LEAST, GREATEST};
        for (int v : put) {
            row("put(.., " + v + ")", of(x.put(0, 0, 2, v), x.put(1, 1, 0, v), x.put(2, 2, 1, v)), 1, 1, 1);
            row("get of " + v, of(x.get(0, 0, 2), x.get(1, 1, 0), x.get(2, 2, 1)), (byte) v, (short) v, v);
        }
        for (int i : of(-1, 3, LEAST, GREATEST)) {
            due("put at " + i, x.put(0, 0, i, 1), INDEX);
            x.sheet(3, 0, -1);
            due("get at " + i, x.get(0, 0, i), LEAST);
            due("count(8)", x.count(8), 2);
        }
        due("CAST ahead of INDEX", x.put(0, 1, 3, 1), CAST);
        due("count(8)", x.count(8), 3);
        due("NULL ahead of INDEX", x.put(3, 1, 3, 1), NULL);
        due("count(8)", x.count(8), 1);
        due("get with another form", x.get(1, 2, 9), LEAST);
        due("count(8)", x.count(8), 3);
        due("get of a lost one", x.get(3, 0, 0), LEAST);
        due("count(8)", x.count(8), 1);
        x.put(0, 0, 9, 1);
        for (int bad : of(-1, 4, LEAST, GREATEST)) {
            row("wrong sheets", of(x.put(bad, 0, 0, 1), x.get(bad, 0, 0)), BAD, LEAST);
        }
        for (int bad : of(-1, 3, LEAST, GREATEST)) {
            row("wrong forms", of(x.put(3, bad, 0, 1), x.get(3, bad, 0)), BAD, LEAST);
        }
        due("count(8) knows nothing of BAD", x.count(8), 2);
    }

    private static void copies() {
        sentence("32 copy");
        RoofAcross x = new RoofAcross();
        x.sheet(0, 1, 5);
        x.sheet(1, 1, 4);
        x.sheet(2, 2, 5);
        for (int i = 0; i < 5; i++) {
            x.put(0, 1, i, i + 1);
        }
        due("to another one", x.copy(0, 2, 1, 1, 3), 1);
        row("it has", of(x.get(1, 1, 0), x.get(1, 1, 1), x.get(1, 1, 2), x.get(1, 1, 3)), 0, 3, 4, 5);
        due("upwards in itself", x.copy(0, 0, 0, 1, 4), 1);
        row("it has", of(x.get(0, 1, 0), x.get(0, 1, 1), x.get(0, 1, 2), x.get(0, 1, 3), x.get(0, 1, 4)), 1, 1, 2, 3, 4);
        due("downwards in itself", x.copy(0, 1, 0, 0, 4), 1);
        row("it has", of(x.get(0, 1, 0), x.get(0, 1, 1), x.get(0, 1, 2), x.get(0, 1, 3), x.get(0, 1, 4)), 1, 2, 3, 4, 4);
        due("none at the ends", x.copy(0, 5, 1, 4, 0), 1);
        row("none beyond the ends", of(x.copy(0, 6, 1, 0, 0), x.copy(0, 0, 1, 5, 0)), INDEX, INDEX);
        row("too many", of(x.copy(0, 0, 1, 0, 5), x.copy(0, 2, 1, 0, 4), x.copy(1, 0, 0, 2, 4)), INDEX, INDEX, INDEX);
        for (int bad : of(-1, LEAST, GREATEST)) {
            row("wrong places", of(x.copy(0, bad, 1, 0, 1), x.copy(0, 0, 1, bad, 1), x.copy(0, 0, 1, 0, bad)), INDEX, INDEX, INDEX);
            row("all wrong", of(x.copy(0, bad, 1, bad, bad)), INDEX);
        }
        due("i and n that wrap", x.copy(0, 1, 1, 1, GREATEST), INDEX);
        due("count(8)", x.count(8), 2);
        due("STORE ahead of INDEX", x.copy(0, -1, 2, 0, 1), STORE);
        due("count(8)", x.count(8), 4);
        due("STORE of none", x.copy(0, 0, 2, 0, 0), STORE);
        due("s is lost", x.copy(3, -1, 0, 0, 1), NULL);
        due("count(8)", x.count(8), 1);
        due("t is lost", x.copy(2, -1, 3, 0, 1), NULL);
        for (int bad : of(-1, 4, LEAST, GREATEST)) {
            row("wrong sheets", of(x.copy(bad, 0, 3, 0, 0), x.copy(3, 0, bad, 0, 0)), BAD, BAD);
        }
    }

    private static void writes() {
        sentence("33 write");
        RoofAcross x = street("00l;30l;90l", "", 9, 9, 9, 9, 9, 9, 9, 9, 9, 9, 9, 9);
        x.sheet(0, 0, 5);
        x.sheet(1, 2, 2);
        x.put(0, 0, 3, 7);
        due("more items than houses", x.write(0), 3);
        row("items", of(x.get(0, 0, 0), x.get(0, 0, 1), x.get(0, 0, 2), x.get(0, 0, 3)), 108, 72, 0, 7);
        due("more houses than items", x.write(1), 2);
        row("items", of(x.get(1, 2, 0), x.get(1, 2, 1)), 108, 72);
        due("a lost one", x.write(2), NULL);
        due("count(8)", x.count(8), 1);
        x.sheet(3, 1, 0);
        due("no items", x.write(3), 0);
        for (int bad : of(-1, 4, LEAST, GREATEST)) {
            due("write(" + bad + ")", x.write(bad), BAD);
        }
        RoofAcross none = new RoofAcross();
        none.sheet(0, 0, 3);
        due("no houses", none.write(0), 0);
    }

    private static void counts() {
        sentence("34 count");
        RoofAcross x = street("35k;24g;12f", "102", 4, 6);
        x.fact(0, 0, 1);
        x.set(0, 4);
        x.set(1, 1);
        x.lose(0);
        int[] want = {3, 11, 3, 2, 2, 1, 4, 1, 1};
        for (int what = 0; what < want.length; what++) {
            due("count(" + what + ")", x.count(what), want[what]);
        }
        due("rings by a fault", street("35k;24g;12f", "1").count(4), 1);
        due("rings of one each", street("35k;24g;12f", "012").count(4), 3);
        for (int bad : of(-1, 9, LEAST, GREATEST)) {
            due("count(" + bad + ")", x.count(bad), BAD);
        }
    }

    private static void digests() {
        sentence("35 digest");
        long empty = fold(17, 0, 0, 0, 0, 0, 0, 1, 0, NONE, NONE, 0, 0, 0, 0, 0, 0, 0, 1, NOT, NOT, 0, 0);
        due("a new object", new RoofAcross().digest(), empty);
        RoofAcross x = street("05l", "0", 1, 3);
        x.wish(0, 0, 6);
        x.claim(0, 3);
        // one house: harm 4, no row of tempers keeps it at 3 but who keeps (1 + 2)
        long one = fold(17, 1, 3, 1, 2, 1, 0, 1, 0, NONE, NONE);
        one = fold(one, 0, 5, 3, 0, 0, 0, 5, 4, 0, 1, 1, 1, 0, 0, 0, 1, 3);
        one = fold(one, 0, 5, 4, 0, 0, 6, 6, 1, 0, 1, 0, 1);
        due("one house", x.digest(), one);
        x.sheet(0, 0, -1);
        due("a finding is not told", x.digest(), one);
        RoofAcross six = street("00k;00k;00k;00k;00k;00k", "");
        long h = fold(17, 6, 23, 0, 0, 1, 0, 1, 0, NONE, 0);
        for (int it = 0; it < 6; it++) {
            h = fold(h, 0, 0, 0, (it + 1) % 6, (it + 5) % 6, 0, 0, 0, 0, 63, 6, FULL, FULL, (it + 1) % 6, it, 63, 0);
        }
        h = fold(h, 0, 0, 0, 0, 0, 0, 0, 720, 0, 120, 0, 0);
        due("six houses", six.digest(), h);
        RoofAcross rich = street("10k;23g;31f;02l", "1032", 9, 4, 6, 2, 9);
        rich.wish(0, 0, 3);
        rich.wish(1, 1, 4);
        rich.wish(2, 0, 9);
        rich.fact(0, 3, 0);
        rich.claim(1, 5);
        due("hands matter", rich.hands(8, NONE) - rich.hands(9, NONE), 4);
        due("hands matter", rich.hands(9, NONE) - rich.hands(10, NONE), 4);
        due("changes matter", rich.market(NONE), 1);
        due("four houses", rich.digest(), foldedByTheDocument(rich));
    }

    /** What was answered once must not be answered again when what it hangs on has changed. */
    private static void answersFollowChanges() {
        sentence("changes are seen");
        RoofAcross x = street("02k;02k;30l", "012", 2, 2);
        row("at first", of(x.all(2, 2), x.harm(0, 2), x.dry(0, 3, 0), x.hands(0, NONE)), 6, 3, 1, 8);
        x.set(0, 3);
        row("another price", of(x.all(2, 2), x.harm(0, 2), x.dry(0, 3, 0)), 8, 4, 0);
        x.set(0, 1);
        row("the old price", of(x.all(2, 2), x.harm(0, 2), x.dry(0, 3, 0)), 6, 3, 1);
        x.rain(1);
        row("a rain more", of(x.all(2, 2), x.harm(0, 3), x.dry(0, 4, 0)), 6, 3, 1);
        x.undo();
        row("one less", of(x.dry(0, 4, 0), x.hands(0, NONE)), 4, 8);
        x.wipe(0);
        typeAll(x, 0, "50l");
        row("other houses", of(x.all(2, 0), x.all(2, 2), x.dry(0, 0, 0), x.hands(0, NONE), x.could(NONE), x.ask(0)), 5, 0, 4, 0, 1, 0);
        x = street("00k;00k", "");
        x.fact(0, 0, 1);
        row("a fact", of(x.could(NONE), x.could(0)), 1, 1);
        x.forget();
        row("forgotten", of(x.could(NONE), x.could(0)), 2, 3);
        x.wish(0, 1, 5);
        row("a wish", of(x.market(-2), x.best(NONE)), 5, 5);
        x.wish(0, 1, 2);
        row("a lesser one", of(x.market(-2), x.best(NONE)), 2, 2);
        typeAll(x, 1, "01");
        row("other lots", of(x.market(-2), x.market(0), x.best(NONE)), 0, 0, 2);
    }

    private static void refusalsChangeNothing() {
        sentence("refusals");
        RoofAcross x = street("35k;24g;12f", "120", 4, 6);
        x.fact(0, 0, 0);
        x.wish(0, 2, 3);
        x.sheet(0, 0, 2);
        long before = x.digest();
        x.type(0, 256);
        x.wipe(2);
        x.rain(10);
        x.read(1);
        x.set(0, 0);
        x.wish(0, 2, 10);
        x.fact(0, 8, 0);
        x.claim(0, 1000);
        x.put(0, 0, 2, 1);
        x.copy(0, 0, 0, 0, 3);
        due("digest()", x.digest(), before);
        row("items", of(x.get(0, 0, 0), x.get(0, 0, 1)), 0, 0);
    }
}
