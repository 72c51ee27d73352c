/** Each sentence on texts, houses and lots that names a bound (promises 1 to 5): just within it and just beyond. */
final class TextBoundsTest extends Streets {
    public static void main(String[] args) {
        begin(TextBoundsTest.class);
        nothingAtFirst();
        eachObjectForItself();
        fiveHundredAndTwelveCalls();
        fortyBytes();
        tenBytes();
        bytesAsTold();
        textsAsTold();
        wiped();
        eightHouses();
        everyByteOfAHouse();
        figuresAndTempers();
        firstByteThatCannotGoOn();
        aHouseThatIsNotToldWhole();
        aNinthHouse();
        noHousesAreWell();
        everyByteOfLots();
        oneByteMoreOrFewer();
        noHousesWithAFault();
        theNextOnesRoof();
        housesAsTold();
        end();
    }

    private static void nothingAtFirst() {
        sentence("1: No HOUSES, no RAINS; all SHEETS are LOST");
        RoofAcross x = new RoofAcross();
        row("counts", of(x.count(0), x.count(1), x.count(2), x.count(3), x.count(4), x.count(5)), 0, 0, 0, 0, 0, 0);
        row("PRICE, WEAR, no FINDING", of(x.count(6), x.count(7), x.count(8)), 1, 0, 0);
        row("texts are empty, and well", of(x.wipe(0), x.wipe(1), x.fault(0), x.fault(1)), 0, 0, NONE, NONE);
        row("no HOUSE 0", of(x.house(0, 0), x.tiles(0, 0), x.ring(0, 0), x.dry(0, 0, 0), x.want(0, 1)), BAD, BAD, BAD, BAD, BAD);
        row("behind no RAINS", of(x.all(0, 0), x.all(0, 1), x.all(0, 2), x.all(0, 3), x.all(1, 0)), 0, 0, 0, 0, BAD);
        row("nothing is undone or forgotten", of(x.undo(), x.forget(), x.liars()), NOT, 0, 0);
        for (int s = 0; s < 4; s++) {
            RoofAcross y = new RoofAcross();
            due("lose(" + s + ")", y.lose(s), NULL);
            due("count(8)", y.count(8), 1);
        }
    }

    private static void eachObjectForItself() {
        sentence("1: A new object, beside another one");
        long empty = new RoofAcross().digest();
        RoofAcross used = lived();
        long told = used.digest();
        RoofAcross fresh = new RoofAcross();
        due("it has nothing of it", fresh.digest(), empty);
        row("no FINDING of it", of(fresh.count(8), used.count(8)), 0, 5);
        typeAll(fresh, 0, EIGHT);
        fresh.rain(9);
        due("it gives it nothing", used.digest(), told);
        unchanged("behind it", used, lived());
    }

    private static void fiveHundredAndTwelveCalls() {
        sentence("An object is used for at most 512 calls after it has been made");
        RoofAcross x = new RoofAcross();
        int calls = 0;
        while (calls < 480) {
            due("call " + (calls + 1), x.type(0, '0'), 1);
            due("call " + (calls + 2), x.wipe(0), 1);
            due("call " + (calls + 3), x.rain(calls % 10), 1);
            due("call " + (calls + 4), x.undo(), 0);
            calls += 4;
        }
        for (char c : EIGHT.toCharArray()) {
            calls++;
            due("call " + calls, x.type(0, c), calls - 480);
        }
        due("511 calls so far", calls, 511);
        due("the last one", x.digest(), street(EIGHT, "").digest());
    }

    private static void fortyBytes() {
        sentence("2: HOUSES (text 0) are a text of up to 40 bytes");
        RoofAcross x = new RoofAcross();
        typeAll(x, 0, EIGHT + ";00k;00k");
        due("39 bytes", x.count(1), 39);
        due("the fortieth", x.type(0, ';'), 40);
        due("one beyond", x.type(0, '0'), FULL);
        row("behind it", of(x.count(1), x.fault(0), x.count(2), x.type(1, '0')), 40, 32, 0, 1);
        row("wiped, it begins anew", of(x.wipe(0), x.type(0, '0'), x.count(1)), 40, 1, 1);
    }

    private static void tenBytes() {
        sentence("2: LOTS (text 1) are a text of up to 10 bytes");
        RoofAcross x = street(EIGHT, "765432101");
        due("9 bytes", x.count(2), 9);
        due("the tenth", x.type(1, '0'), 10);
        due("one beyond", x.type(1, '0'), FULL);
        row("behind it", of(x.count(2), x.fault(1), x.count(1), x.house(0, 3)), 10, 8, 31, 1);
        row("wiped, it begins anew", of(x.wipe(1), x.type(1, '0'), x.count(2)), 10, 1, 1);
    }

    private static void bytesAsTold() {
        sentence("2: A byte (0 to 255) comes behind a text");
        for (int text = 0; text < 2; text++) {
            RoofAcross x = new RoofAcross();
            row("the least, the greatest", of(x.type(text, 0), x.type(text, 255)), 1, 2);
            row("beyond", of(x.type(text, -1), x.type(text, 256), x.type(text, LEAST), x.type(text, GREATEST)), BAD, BAD, BAD, BAD);
            due("behind it", x.count(1 + text), 2);
        }
        // bytes count as they are, not by their lowest bits
        RoofAcross x = new RoofAcross();
        row("48 and 256", of(x.type(0, '0' + 256), x.type(0, '0' - 256), x.count(1)), BAD, BAD, 0);
    }

    private static void textsAsTold() {
        sentence("2, 3, 4: text 0, text 1");
        RoofAcross x = street("35k;24g", "10");
        for (int text : of(-1, 2, LEAST, GREATEST)) {
            row("text " + text, of(x.type(text, '0'), x.wipe(text), x.fault(text)), BAD, BAD, BAD);
        }
        row("behind it", of(x.count(1), x.count(2), x.fault(0), x.fault(1)), 7, 2, NONE, NONE);
    }

    private static void wiped() {
        sentence("3: A text is empty: how many bytes it had");
        RoofAcross x = street("35k;24g", "10", 5);
        row("HOUSES alone", of(x.wipe(0), x.count(1), x.count(2), x.count(0), x.fault(0), x.fault(1)), 7, 0, 2, 0, NONE, 0);
        row("an empty one", of(x.wipe(0), x.wipe(0)), 0, 0);
        row("LOTS alone", of(x.wipe(1), x.count(2), x.fault(1), x.wipe(1)), 2, 0, NONE, 0);
        row("what else was told stays", of(x.count(3), x.undo()), 1, 0);
        typeAll(x, 0, "91l");
        row("nothing of the old text is left", of(x.count(0), x.house(0, 0), x.house(0, 1), x.house(0, 2), x.house(0, 3)), 1, 9, 1, 3, 0);
        RoofAcross full = full();
        row("full ones", of(full.wipe(0), full.wipe(1), full.count(1), full.count(2)), 40, 10, 0, 0);
    }

    private static void eightHouses() {
        sentence("houses with ; between them, 8 at most (0 on)");
        for (int n = 0; n <= 8; n++) {
            RoofAcross x = street(houses(n), "");
            due(n + " houses", x.count(0), n);
            due(n + " houses, fault(0)", x.fault(0), NONE);
            due("the first of " + n, x.house(0, 0), n == 0 ? BAD : 0);
            due("the last of " + n, x.house(n - 1, 0), n == 0 ? BAD : n - 1);
            due("one beyond " + n, x.house(n, 0), BAD);
        }
        RoofAcross x = street(EIGHT + ";00k", "");
        row("nine", of(x.count(0), x.house(0, 0), x.house(8, 0)), 0, BAD, BAD);
    }

    private static void everyByteOfAHouse() {
        sentence("4: the place of the first byte with which it cannot go on");
        String well = "00k;99l";
        String[] fits = {"0123456789", "0123456789", "kgfl", ";"};
        for (int place = 0; place < well.length(); place++) {
            for (int b = 0; b < 256; b++) {
                StringBuilder t = new StringBuilder(well);
                t.setCharAt(place, (char) b);
                RoofAcross x = street(t.toString(), "");
                boolean goesOn = fits[place % 4].indexOf(b) >= 0;
                due("byte " + b + " at " + place, x.fault(0), goesOn ? NONE : place);
                due("byte " + b + " at " + place + ", houses", x.count(0), goesOn ? 2 : 0);
            }
        }
    }

    private static void figuresAndTempers() {
        sentence("two figures (TILES, PURSE: 0 to 9 each) and a letter, its TEMPER (0 to 3)");
        for (int v = 0; v <= 9; v++) {
            RoofAcross x = street(v + "" + (9 - v) + "k", "");
            row("figures " + v + ", " + (9 - v), of(x.house(0, 0), x.house(0, 1)), v, 9 - v);
        }
        RoofAcross x = street("00k;00g;00f;00l", "");
        row("k, g, f, l", of(x.house(0, 2), x.house(1, 2), x.house(2, 2), x.house(3, 2)), 0, 1, 2, 3);
    }

    private static void firstByteThatCannotGoOn() {
        sentence("4: the first byte of several with which it cannot go on");
        String[] texts = {"xyz", "0xy", "00xx", "00kxx", "00k;xx", "00k;0x;", ";00k", "00k;;00k", "00k00k", "0k", "k00;", "00kk;", EIGHT + "x"};
        int[] faults = {0, 1, 2, 3, 4, 5, 0, 4, 3, 1, 0, 3, 31};
        for (int i = 0; i < texts.length; i++) {
            due(texts[i], street(texts[i], "").fault(0), faults[i]);
        }
        due("one that comes later changes nothing", street("0x", "").fault(0), street("0xk;00k", "").fault(0));
    }

    private static void aHouseThatIsNotToldWhole() {
        sentence("4: a text that stops within a house cannot go on at its end");
        for (int size = 0; size <= EIGHT.length(); size++) {
            RoofAcross x = street(EIGHT.substring(0, size), "");
            boolean well = size == 0 || size % 4 == 3;
            due(size + " bytes", x.fault(0), well ? NONE : size);
            due(size + " bytes, houses", x.count(0), well ? (size + 1) / 4 : 0);
        }
    }

    private static void aNinthHouse() {
        sentence("4: of the first byte of a ninth HOUSE");
        for (String ninth : new String[] {"", "0", "00", "00k", "x", ";", "00k;", "00k;00k;"}) {
            RoofAcross x = street(EIGHT + ";" + ninth, "");
            due("a ninth " + ninth, x.fault(0), 32);
            due("a ninth " + ninth + ", houses", x.count(0), 0);
        }
        due("no ninth", street(EIGHT, "").fault(0), NONE);
        due("a fault ahead of it", street(EIGHT.replace("77l", "77x") + ";00k", "").fault(0), 30);
    }

    private static void noHousesAreWell() {
        sentence("4: (no HOUSES are well)");
        RoofAcross x = new RoofAcross();
        row("both empty", of(x.fault(0), x.fault(1), x.count(0)), NONE, NONE, 0);
        x.type(1, '0');
        row("LOTS of no HOUSES", of(x.fault(0), x.fault(1)), NONE, 0);
        x.wipe(1);
        x.type(0, '0');
        row("a FAULT of HOUSES, no LOTS", of(x.fault(0), x.fault(1)), 1, NONE);
    }

    private static void everyByteOfLots() {
        sentence("4: of LOTS of a figure that is no HOUSE or is told already");
        for (int n = 1; n <= 8; n++) {
            for (int place = 0; place < n; place++) {
                for (int b = 0; b < 256; b++) {
                    StringBuilder lots = new StringBuilder("01234567".substring(0, n));
                    lots.setCharAt(place, (char) b);
                    due(n + " houses, byte " + b + " at " + place, street(houses(n), lots.toString()).fault(1), lotsFault(n, place, b));
                }
            }
        }
        row("told already, later", of(street(houses(3), "100").fault(1), street(houses(3), "11").fault(1)), 2, 1);
        row("no HOUSE, just beyond", of(street(houses(3), "012").fault(1), street(houses(3), "013").fault(1)), NONE, 2);
        row("8 and 9 are never one", of(street(EIGHT, "8").fault(1), street(EIGHT, "9").fault(1), street(EIGHT, "7").fault(1)), 0, 0, 1);
    }

    /** Each house owns its own roof, but for one place: what is told there again is told already later. */
    private static int lotsFault(int n, int place, int b) {
        int figure = b - '0';
        if (figure < 0 || figure >= n || figure < place) {
            return place;
        }
        return figure == place ? NONE : figure;
    }

    private static void oneByteMoreOrFewer() {
        sentence("4: of a byte more than there are HOUSES, or its end, if there are fewer");
        for (int n = 0; n <= 8; n++) {
            String own = "01234567".substring(0, n);
            for (int size = 0; size < n; size++) {
                due(size + " of " + n, street(houses(n), own.substring(0, size)).fault(1), size);
            }
            due("all of " + n, street(houses(n), own).fault(1), NONE);
            for (char more : new char[] {'0', '8', 'x', ';'}) {
                due("one more than " + n, street(houses(n), own + more).fault(1), n);
                due("two more than " + n, street(houses(n), own + more + more).fault(1), n);
            }
        }
    }

    private static void noHousesWithAFault() {
        sentence("With a FAULT of HOUSES there are none");
        RoofAcross x = street("35k;24", "10", 5);
        x.claim(0, 3);
        row("none", of(x.count(0), x.count(4), x.house(0, 0), x.tiles(0, 0), x.ring(0, 0), x.dry(0, 0, 0)), 0, 0, BAD, BAD, BAD, BAD);
        row("of none", of(x.all(1, 2), x.market(NONE), x.market(-2), x.best(NONE), x.could(NONE), x.hands(9, NONE)), 0, 0, 0, 0, 1, 0);
        row("nobody there", of(x.want(0, 1), x.market(0), x.best(0), x.could(0), x.hands(9, 0), x.ask(0)), BAD, BAD, BAD, BAD, BAD, NOT);
        row("no liars, LOTS at fault", of(x.liars(), x.fault(1)), 0, 0);
        x.type(0, 'g');
        row("the byte that was missing", of(x.count(0), x.house(0, 0), x.harm(0, 1), x.liars(), x.fault(1), x.house(0, 3)), 2, 3, 2, 1, NONE, 1);
        x.type(0, ';');
        row("one too many", of(x.count(0), x.fault(0), x.house(0, 0)), 0, 8, BAD);
    }

    private static void theNextOnesRoof() {
        sentence("with one of LOTS each HOUSE OWNS the next one's roof (the last one that of HOUSE 0)");
        for (int n = 1; n <= 8; n++) {
            for (String lots : new String[] {"", "x", "012345670"}) {
                RoofAcross x = street(houses(n), lots);
                for (int h = 0; h < n; h++) {
                    due(h + " of " + n + " owns", x.house(h, 3), (h + 1) % n);
                    due(h + " of " + n + " is owned by", x.house(h, 4), (h + n - 1) % n);
                }
                due("rings of " + n, x.count(4), 1);
            }
        }
        RoofAcross x = street(houses(3), "021");
        row("without one", of(x.house(0, 3), x.house(1, 3), x.house(2, 3), x.house(2, 4), x.count(4)), 0, 2, 1, 1, 2);
        x.type(1, '0');
        row("with one", of(x.house(0, 3), x.house(1, 3), x.house(2, 3), x.house(2, 4), x.count(4)), 1, 2, 0, 1, 1);
    }

    private static void housesAsTold() {
        sentence("5: Of a HOUSE as told: what = 0 .. 4");
        RoofAcross x = street("35k;24g", "01", 9, 9, 9);
        row("behind RAINS as told", of(x.house(0, 0), x.house(0, 1), x.house(0, 2), x.house(0, 3), x.house(0, 4)), 3, 5, 0, 0, 0);
        row("the last one", of(x.house(1, 0), x.house(1, 1), x.house(1, 2), x.house(1, 3), x.house(1, 4)), 2, 4, 1, 1, 1);
        for (int what : of(-1, 5, LEAST, GREATEST)) {
            due("house(0, " + what + ")", x.house(0, what), BAD);
        }
        for (int house : of(-1, 2, 8, LEAST, GREATEST)) {
            for (int what = 0; what <= 4; what++) {
                due("house(" + house + ", " + what + ")", x.house(house, what), BAD);
            }
        }
    }
}
