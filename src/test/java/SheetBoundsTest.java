/** Each sentence on sheets, counts and the digest that names a bound (promises 28 to 35): just within it and just beyond. */
final class SheetBoundsTest extends Streets {
    public static void main(String[] args) {
        begin(SheetBoundsTest.class);
        lostAtFirst();
        fortyEightItems();
        sizeBelowNone();
        formsAsTold();
        newRows();
        lost();
        itemsOfBytes();
        itemsOfShorts();
        itemsOfInts();
        placesOfItems();
        orderOfPut();
        refusalsOfGet();
        copiesWithin();
        copiesThatWrap();
        copiesOfNone();
        copiesInItself();
        orderOfCopy();
        written();
        writtenRefused();
        findings();
        counts();
        digestOfAll();
        digestByItsParts();
        digestIsTold();
        end();
    }

    private static void lostAtFirst() {
        sentence("SHEETS 0 .. 3 are LOST (at first) or a row of a FORM");
        for (int s = 0; s < 4; s++) {
            RoofAcross x = new RoofAcross();
            row("LOST " + s, of(x.lose(s), x.read(s), x.write(s), x.put(s, 0, 0, 0), x.copy(s, 0, s, 0, 0)), NULL, NULL, NULL, NULL, NULL);
            row("a row " + s, of(x.sheet(s, 1, 2), x.put(s, 1, 1, 7), x.get(s, 1, 1), x.read(s), x.lose(s)), 2, 1, 7, 2, 2);
            for (int other = 0; other < 4; other++) {
                due("no other one", x.lose(other), NULL);
            }
        }
        RoofAcross x = new RoofAcross();
        for (int s : of(-1, 4, LEAST, GREATEST)) {
            row("SHEET " + s, of(x.sheet(s, 0, 0), x.lose(s), x.put(s, 0, 0, 0), x.read(s), x.write(s)), BAD, BAD, BAD, BAD, BAD);
            row("SHEET " + s, of(x.get(s, 0, 0), x.copy(s, 0, 0, 0, 0), x.copy(0, 0, s, 0, 0), x.count(8)), LEAST, BAD, BAD, 0);
        }
    }

    private static void fortyEightItems() {
        sentence("28: a row of 0 to 48 items; BAD: above 48");
        for (int form = 0; form < 3; form++) {
            RoofAcross x = new RoofAcross();
            row("none", of(x.sheet(0, form, 0), x.get(0, form, 0), x.count(8), x.lose(0)), 0, LEAST, 2, 0);
            row("one", of(x.sheet(0, form, 1), x.get(0, form, 0), x.get(0, form, 1), x.lose(0)), 1, 0, LEAST, 1);
            row("48", of(x.sheet(0, form, 48), x.put(0, form, 47, 9), x.get(0, form, 47), x.put(0, form, 48, 9)), 48, 1, 9, INDEX);
            row("49", of(x.sheet(0, form, 49), x.sheet(0, form, GREATEST), x.get(0, form, 47), x.lose(0)), BAD, BAD, 9, 48);
            row("49 of a LOST one", of(x.sheet(0, form, 49), x.lose(0)), BAD, NULL);
        }
    }

    private static void sizeBelowNone() {
        sentence("28: SIZE: below 0");
        RoofAcross x = new RoofAcross();
        row("of a LOST one", of(x.sheet(0, 0, -1), x.count(8), x.lose(0)), SIZE, 5, NULL);
        fill(x, 0, 1, 300, 301);
        row("of a row", of(x.sheet(0, 0, -1), x.sheet(0, 2, LEAST), x.count(8), x.get(0, 1, 1), x.lose(0)), SIZE, SIZE, 5, 301, 2);
        row("BAD ahead of it", of(x.sheet(-1, 0, -1), x.sheet(4, 0, -1), x.sheet(0, -1, -1), x.sheet(0, 3, -1)), BAD, BAD, BAD, BAD);
        due("which is no FINDING", x.count(8), 5);
    }

    private static void formsAsTold() {
        sentence("28, 30, 31: a FORM: 0 bytes, 1 shorts, 2 ints");
        RoofAcross x = new RoofAcross();
        for (int form = 0; form < 3; form++) {
            due("FORM " + form, x.sheet(form, form, 3), 3);
        }
        for (int form : of(-1, 3, LEAST, GREATEST)) {
            row("FORM " + form, of(x.sheet(0, form, 1), x.put(0, form, 0, 1), x.get(0, form, 0)), BAD, BAD, LEAST);
            row("of a LOST one", of(x.sheet(3, form, 1), x.put(3, form, 0, 1), x.get(3, form, 0)), BAD, BAD, LEAST);
        }
        row("behind it", of(x.count(8), x.lose(0), x.lose(3)), 0, 3, NULL);
    }

    private static void newRows() {
        sentence("28: A SHEET is a new row of a FORM with n items (0 at first): n");
        RoofAcross x = new RoofAcross();
        for (int form = 0; form < 3; form++) {
            fill(x, 2, form, 1, 2, 3, 4);
            row("the same again", of(x.sheet(2, form, 4), x.get(2, form, 0), x.get(2, form, 3)), 4, 0, 0);
            x.put(2, form, 1, 9);
            row("fewer, then more", of(x.sheet(2, form, 1), x.sheet(2, form, 3), x.get(2, form, 1)), 1, 3, 0);
            x.put(2, form, 2, 9);
            row("LOST, then new", of(x.lose(2), x.sheet(2, form, 3), x.get(2, form, 2)), 3, 3, 0);
        }
    }

    private static void lost() {
        sentence("29: It is LOST: how many items it had");
        RoofAcross x = new RoofAcross();
        row("none", of(x.sheet(1, 0, 0), x.lose(1), x.lose(1), x.count(8)), 0, 0, NULL, 1);
        row("48", of(x.sheet(1, 2, 48), x.lose(1), x.lose(1)), 48, 48, NULL);
        row("behind it", of(x.put(1, 2, 0, 1), x.get(1, 2, 0), x.read(1), x.write(1)), NULL, LEAST, NULL, NULL);
    }

    private static void itemsOfBytes() {
        sentence("30: becomes v (the lowest bits that it has, with its sign): bytes");
        RoofAcross x = new RoofAcross();
        x.sheet(0, 0, 1);
        int[] put = {127, 128, -128, -129, 255, 256, -1, 0x7F80, LEAST, GREATEST};
        int[] got = {127, -128, -128, 127, -1, 0, -1, -128, 0, -1};
        for (int i = 0; i < put.length; i++) {
            row("put " + put[i], of(x.put(0, 0, 0, put[i]), x.get(0, 0, 0)), 1, got[i]);
        }
    }

    private static void itemsOfShorts() {
        sentence("30: becomes v (the lowest bits that it has, with its sign): shorts");
        RoofAcross x = new RoofAcross();
        x.sheet(0, 1, 1);
        int[] put = {128, 255, 32767, 32768, -32768, -32769, 65535, 65536, -1, LEAST, GREATEST};
        int[] got = {128, 255, 32767, -32768, -32768, 32767, -1, 0, -1, 0, -1};
        for (int i = 0; i < put.length; i++) {
            row("put " + put[i], of(x.put(0, 1, 0, put[i]), x.get(0, 1, 0)), 1, got[i]);
        }
    }

    private static void itemsOfInts() {
        sentence("30: becomes v (the lowest bits that it has, with its sign): ints");
        RoofAcross x = new RoofAcross();
        x.sheet(0, 2, 1);
        for (int v : of(128, 32768, 65536, -1, LEAST, LEAST + 1, GREATEST)) {
            row("put " + v, of(x.put(0, 2, 0, v), x.get(0, 2, 0)), 1, v);
        }
        row("the least int is no FINDING", of(x.put(0, 2, 0, LEAST), x.get(0, 2, 0), x.count(8)), 1, LEAST, 0);
    }

    private static void placesOfItems() {
        sentence("30, 31: INDEX: there is no such item");
        for (int size : of(0, 1, 2, 48)) {
            RoofAcross x = new RoofAcross();
            x.sheet(0, 0, size);
            for (int i = 0; i < size; i++) {
                row("item " + i + " of " + size, of(x.put(0, 0, i, i + 1), x.get(0, 0, i)), 1, i + 1);
            }
            for (int i : of(-1, size, LEAST, GREATEST)) {
                row("item " + i + " of " + size, of(x.put(0, 0, i, 9), x.count(8)), INDEX, 2);
                row("get", of(x.sheet(1, 0, -1), x.get(0, 0, i), x.count(8)), SIZE, LEAST, 2);
            }
            for (int i = 0; i < size; i++) {
                due("behind it", x.get(0, 0, i), i + 1);
            }
        }
        RoofAcross x = new RoofAcross();
        x.sheet(0, 0, 5);
        x.sheet(0, 0, 2);
        row("none of the old row", of(x.put(0, 0, 2, 1), x.get(0, 0, 2), x.get(0, 0, 1)), INDEX, LEAST, 0);
    }

    private static void orderOfPut() {
        sentence("30: BAD; NULL; CAST; INDEX");
        for (int form = 0; form < 3; form++) {
            RoofAcross x = new RoofAcross();
            x.sheet(0, form, 2);
            int other = (form + 1) % 3;
            row("CAST", of(x.put(0, other, 0, 5), x.count(8), x.get(0, form, 0)), CAST, 3, 0);
            row("CAST", of(x.put(0, (form + 2) % 3, 0, 5), x.get(0, form, 0)), CAST, 0);
            row("INDEX", of(x.put(0, form, 2, 5), x.count(8)), INDEX, 2);
            row("CAST ahead of INDEX", of(x.put(0, other, 2, 5), x.put(0, other, -1, 5)), CAST, CAST);
            row("NULL ahead of CAST, INDEX", of(x.put(1, form, 0, 5), x.put(1, other, -1, 5), x.count(8)), NULL, NULL, 1);
            row("BAD ahead of all", of(x.put(4, 3, -1, 5), x.put(1, 3, -1, 5), x.put(0, 3, 9, 5), x.count(8)), BAD, BAD, BAD, 1);
        }
    }

    private static void refusalsOfGet() {
        sentence("31: BAD: the least int; so are NULL, CAST, INDEX (count() 8 tells)");
        RoofAcross x = new RoofAcross();
        row("BAD", of(x.get(-1, 0, 0), x.get(4, 0, 0), x.get(0, -1, 0), x.get(0, 3, 0), x.count(8)), LEAST, LEAST, LEAST, LEAST, 0);
        row("NULL", of(x.get(0, 0, 0), x.count(8)), LEAST, 1);
        fill(x, 0, 1, 5);
        row("CAST", of(x.get(0, 0, 0), x.count(8)), LEAST, 3);
        row("INDEX", of(x.get(0, 1, 1), x.count(8)), LEAST, 2);
        row("CAST ahead of INDEX", of(x.get(0, 2, 1), x.count(8)), LEAST, 3);
        row("NULL ahead of both", of(x.get(3, 2, -1), x.count(8)), LEAST, 1);
        row("BAD tells none", of(x.get(0, 1, -1), x.get(4, 0, 0), x.count(8)), LEAST, LEAST, 2);
        row("what there is", of(x.get(0, 1, 0), x.count(8)), 5, 2);
    }

    private static RoofAcross twoRows() {
        RoofAcross x = new RoofAcross();
        fill(x, 0, 1, 1, 2, 3, 4, 5);
        fill(x, 1, 1, 10, 20, 30, 40);
        return x;
    }

    private static void copiesWithin() {
        sentence("32: n items of SHEET s, from i on, come to SHEET t, from j on: 1. INDEX: i, j or n below 0, not so many there");
        for (int i = -1; i <= 6; i++) {
            for (int j = -1; j <= 5; j++) {
                for (int n = -1; n <= 6; n++) {
                    RoofAcross x = twoRows();
                    boolean there = i >= 0 && j >= 0 && n >= 0 && i + n <= 5 && j + n <= 4;
                    due("copy(0, " + i + ", 1, " + j + ", " + n + ")", x.copy(0, i, 1, j, n), there ? 1 : INDEX);
                    due("count(8)", x.count(8), there ? 0 : 2);
                    for (int at = 0; at < 4; at++) {
                        boolean came = there && at >= j && at < j + n;
                        due("item " + at, x.get(1, 1, at), came ? i + at - j + 1 : 10 * at + 10);
                    }
                    row("SHEET s is as it was", items(x, 0, 1, 5), 1, 2, 3, 4, 5);
                }
            }
        }
        RoofAcross x = new RoofAcross();
        x.sheet(0, 2, 48);
        x.sheet(1, 2, 48);
        x.put(0, 2, 47, 7);
        row("all 48", of(x.copy(0, 0, 1, 0, 48), x.get(1, 2, 47), x.copy(0, 0, 1, 0, 49), x.copy(0, 1, 1, 0, 48)), 1, 7, INDEX, INDEX);
    }

    private static void copiesThatWrap() {
        sentence("32: INDEX of sums beyond the greatest int");
        RoofAcross x = twoRows();
        row("i and n", of(x.copy(0, 1, 1, 0, GREATEST), x.copy(0, GREATEST, 1, 0, 1), x.copy(0, GREATEST, 1, 0, GREATEST)), INDEX, INDEX, INDEX);
        row("j and n", of(x.copy(0, 0, 1, 1, GREATEST), x.copy(0, 0, 1, GREATEST, 1), x.copy(0, 0, 1, GREATEST, GREATEST)), INDEX, INDEX, INDEX);
        row("below 0", of(x.copy(0, LEAST, 1, 0, 1), x.copy(0, 0, 1, LEAST, 1), x.copy(0, 0, 1, 0, LEAST)), INDEX, INDEX, INDEX);
        row("that make 0", of(x.copy(0, LEAST, 1, LEAST, LEAST), x.copy(0, -1, 1, -1, 1), x.copy(0, 1, 1, 1, -1)), INDEX, INDEX, INDEX);
        row("behind it", items(x, 1, 1, 4), 10, 20, 30, 40);
    }

    private static void copiesOfNone() {
        sentence("32: (of n 0, too: i or j above the size)");
        RoofAcross x = twoRows();
        row("at the ends", of(x.copy(0, 5, 1, 4, 0), x.copy(0, 0, 1, 0, 0), x.copy(1, 4, 0, 5, 0), x.count(8)), 1, 1, 1, 0);
        row("above", of(x.copy(0, 6, 1, 0, 0), x.copy(0, 0, 1, 5, 0), x.copy(1, 5, 0, 0, 0), x.copy(1, 0, 0, 6, 0)), INDEX, INDEX, INDEX, INDEX);
        row("below", of(x.copy(0, -1, 1, 0, 0), x.copy(0, 0, 1, -1, 0)), INDEX, INDEX);
        x.sheet(2, 1, 0);
        row("of empty ones", of(x.copy(2, 0, 2, 0, 0), x.copy(2, 0, 0, 5, 0), x.copy(2, 1, 0, 0, 0), x.copy(2, 0, 0, 0, 1)), 1, 1, INDEX, INDEX);
        row("behind it", items(x, 1, 1, 4), 10, 20, 30, 40);
    }

    private static void copiesInItself() {
        sentence("32: SHEET t (perhaps s, as they were)");
        for (int form = 0; form < 3; form++) {
            for (int i = 0; i <= 5; i++) {
                for (int j = 0; j <= 5; j++) {
                    int n = 5 - Math.max(i, j);
                    RoofAcross x = new RoofAcross();
                    fill(x, 3, form, 1, 2, 3, 4, 5);
                    due("copy(3, " + i + ", 3, " + j + ", " + n + ")", x.copy(3, i, 3, j, n), 1);
                    for (int at = 0; at < 5; at++) {
                        boolean came = at >= j && at < j + n;
                        due("item " + at, x.get(3, form, at), came ? at - j + i + 1 : at + 1);
                    }
                    due("one more", x.copy(3, i, 3, j, n + 1), INDEX);
                }
            }
        }
    }

    private static void orderOfCopy() {
        sentence("32: BAD: the SHEETS; NULL: s, t; STORE; INDEX");
        for (int form = 0; form < 3; form++) {
            RoofAcross x = new RoofAcross();
            x.sheet(0, form, 2);
            x.sheet(1, (form + 1) % 3, 2);
            row("STORE", of(x.copy(0, 0, 1, 0, 1), x.count(8), x.copy(1, 0, 0, 0, 2)), STORE, 4, STORE);
            row("of none, too", of(x.copy(0, 0, 1, 0, 0), x.copy(1, 2, 0, 2, 0)), STORE, STORE);
            row("STORE ahead of INDEX", of(x.copy(0, -1, 1, 0, 1), x.copy(0, 0, 1, 3, 1), x.copy(0, 0, 1, 0, -1)), STORE, STORE, STORE);
            row("NULL ahead of both", of(x.copy(2, -1, 1, 0, 1), x.copy(1, 0, 2, 3, 1), x.copy(2, 0, 3, 0, 0), x.count(8)), NULL, NULL, NULL, 1);
            row("NULL of itself", of(x.copy(2, 0, 2, 0, 0), x.copy(2, -1, 2, 0, 0)), NULL, NULL);
            x.put(0, form, 9, 0);
            row("BAD ahead of all", of(x.copy(-1, 0, 2, 0, 0), x.copy(2, 0, -1, 0, 0), x.copy(4, -1, 1, 0, 0), x.copy(0, 0, 4, -1, 0)), BAD, BAD, BAD, BAD);
            due("count(8)", x.count(8), 2);
        }
    }

    private static void written() {
        sentence("33: HARM of HOUSES 0 on comes to a SHEET from item 0 on, as many as there are items and HOUSES: how many");
        for (int n = 0; n <= 8; n++) {
            for (int size = 0; size <= 9; size++) {
                RoofAcross x = street(houses(n), "", 9);
                int form = size % 3;
                x.sheet(0, form, size);
                for (int i = 0; i < size; i++) {
                    x.put(0, form, i, 77);
                }
                due(n + " houses, " + size + " items", x.write(0), Math.min(n, size));
                for (int i = 0; i < size; i++) {
                    due("item " + i, x.get(0, form, i), i < n ? 9 - i : 77);
                }
            }
        }
        sentence("33: behind all RAINS");
        RoofAcross x = street("00l", "0", 9, 9, 9, 9, 9, 9, 9, 9, 9, 9, 9, 9);
        fill(x, 0, 0, 1);
        row("the most fits in a byte", of(x.write(0), x.get(0, 0, 0)), 1, 108);
        while (x.undo() > 0) {
            x.count(3);
        }
        row("behind none", of(x.get(0, 0, 0), x.write(0), x.get(0, 0, 0)), 108, 1, 0);
    }

    private static void writtenRefused() {
        sentence("33: BAD; NULL");
        RoofAcross x = street(houses(2), "", 9);
        row("LOST", of(x.write(3), x.count(8), x.lose(3)), NULL, 1, NULL);
        for (int s : of(-1, 4, LEAST, GREATEST)) {
            due("write(" + s + ")", x.write(s), BAD);
        }
        row("without HOUSES", of(new RoofAcross().write(0), new RoofAcross().write(4)), NULL, BAD);
        x.sheet(0, 0, 0);
        row("no items", of(x.write(0), x.lose(0)), 0, 0);
    }

    private static void findings() {
        sentence("34: the number of the latest FINDING (0 before any)");
        RoofAcross x = new RoofAcross();
        due("before any", x.count(8), 0);
        row("NULL", of(x.lose(0), x.count(8)), -10 - 1, 1);
        x.sheet(0, 0, 1);
        due("what is well leaves it", x.count(8), 1);
        row("INDEX", of(x.put(0, 0, 1, 0), x.count(8)), -10 - 2, 2);
        row("CAST", of(x.put(0, 1, 0, 0), x.count(8)), -10 - 3, 3);
        x.sheet(1, 1, 1);
        row("STORE", of(x.copy(0, 0, 1, 0, 1), x.count(8)), -10 - 4, 4);
        row("SIZE", of(x.sheet(2, 0, -1), x.count(8)), -10 - 5, 5);
        row("BAD, NOT leave it", of(x.rain(10), x.undo(), x.ask(0), x.count(9), x.put(4, 0, 0, 0), x.count(8)), BAD, NOT, NOT, BAD, BAD, 5);
        row("by read(), write()", of(x.read(3), x.count(8), x.sheet(3, 0, -1), x.write(3), x.count(8)), NULL, 1, SIZE, NULL, 1);
    }

    private static void counts() {
        sentence("34: 0 HOUSES, 1, 2 bytes of texts, 3 RAINS, 4 RINGS, 5 FACTS, 6 PRICE, 7 WEAR, 8 FINDING");
        RoofAcross x = lived();
        row("of all", of(x.count(0), x.count(1), x.count(2), x.count(3), x.count(4), x.count(5), x.count(6), x.count(7), x.count(8)), 3, 11, 3, 2, 1, 2, 2, 1, 5);
        row("beyond", of(x.count(-1), x.count(9), x.count(LEAST), x.count(GREATEST), x.count(8)), BAD, BAD, BAD, BAD, 5);
        x = full();
        row("the most", of(x.count(0), x.count(1), x.count(2), x.count(3), x.count(4), x.count(5)), 0, 40, 10, 12, 0, 12);
        x = street(EIGHT, "01234567");
        row("8 HOUSES, 8 RINGS", of(x.count(0), x.count(4)), 8, 8);
    }

    private static void digestOfAll() {
        sentence("35: h is 17; h becomes 31 h and each of .. as longs that wrap");
        long empty = fold(17, 0, 0, 0, 0, 0, 0, 1, 0, NONE, NONE, 0, 0, 0, 0, 0, 0, 0, 1, NOT, NOT, 0, 0);
        due("of a new object", new RoofAcross().digest(), empty);
        // ring of 6: dry is FULL; ring of 2: its 16 rows, and NONE when all are wet
        RoofAcross x = street("00l;00l;00l;00l;00l;00l;50l;50l", "12345076", 5);
        x.wish(0, 7, 9);
        x.fact(7, 7, 1);
        x.claim(7, 1);
        long h = fold(17, 8, 31, 8, 1, 2, 1, 1, 0, NONE, NONE);
        int[] owns = {1, 2, 3, 4, 5, 0, 7, 6};
        int[] owner = {5, 0, 1, 2, 3, 4, 7, 6};
        int[] best = {7, 0, 1, 2, 3, 4, 5, 6};
        int[] hands = {5, 4, 0, 0, 0, 0, 5, 5};
        for (int it = 0; it < 8; it++) {
            boolean six = it < 6;
            h = fold(h, six ? 0 : 5, 0, 3, owns[it], owner[it], six ? 0 : 5, 0, six ? 5 : 0, 0);
            h = fold(h, six ? 63 : 192, six ? 6 : 2, six ? FULL : 16, six ? FULL : 0);
            h = fold(h, owns[it], best[it], it == 7 ? 128 : 127, hands[it]);
        }
        h = fold(h, 10, 0, 30, 0, 0, 0, 9, 5040, 0, 720, 21, 128);
        due("of eight HOUSES", x.digest(), h);
        x = street("00l", "0", 4);
        h = fold(17, 1, 3, 1, 1, 1, 0, 1, 0, NONE, NONE, 0, 0, 3, 0, 0, 0, 0, 4, 0, 1, 1, 0, NONE, 0, 0, 1, 4);
        due("of harm 4: no rows, NONE", x.digest(), fold(h, 0, 0, 4, 0, 0, 0, 0, 1, 0, 1, 0, 0));
        x = street("00l", "0", 3);
        h = fold(17, 1, 3, 1, 1, 1, 0, 1, 0, NONE, NONE, 0, 0, 3, 0, 0, 0, 0, 3, 0, 1, 1, 4, 0, 0, 0, 1, 3);
        due("of harm 3: four rows", x.digest(), fold(h, 0, 0, 3, 0, 0, 0, 0, 1, 0, 1, 0, 0));
    }

    private static void digestByItsParts() {
        sentence("35: of each thing all that is told of it, then of the next one");
        due("much told", lived().digest(), foldedByTheDocument(lived()));
        due("all full", full().digest(), foldedByTheDocument(full()));
        for (int n = 0; n <= 8; n++) {
            RoofAcross x = street(houses(n), "x", 9, 3, 7);
            for (int h = 0; h < 8; h++) {
                x.wish(h, h, 5);
                x.wish(h, (h + 2) % 8, 9 - h);
            }
            x.fact(0, n == 1 ? 7 : 0, 0);
            x.claim(0, 19);
            x.claim(1, 19);
            x.set(0, 2);
            x.set(1, 1);
            due(n + " houses", x.digest(), foldedByTheDocument(x));
            due(n + " houses, LOTS at fault", x.fault(1), 0);
        }
    }

    private static void digestIsTold() {
        sentence("35: it tells, and changes nothing");
        RoofAcross x = lived();
        due("twice", x.digest(), x.digest());
        due("count(8)", x.count(8), 5);
        unchanged("behind it", x, lived());
        RoofAcross y = lived();
        y.lose(3);
        due("no FINDING in it", y.digest(), lived().digest());
        y.sheet(3, 0, 4);
        due("no SHEET in it", y.digest(), lived().digest());
    }
}
