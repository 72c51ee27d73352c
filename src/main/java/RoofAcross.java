/**
 * Houses that own one another's roofs by an old lot: what rains do to them, who would change with
 * whom, who could own what, and who lied. README.md tells how to use it.
 *
 * All rows are made once, with the object: no call makes an object or an array.
 */
public final class RoofAcross {
    public static final int NONE = -1, BAD = -2, NOT = -3, FULL = -4;

    private static final int MOST_HOUSES = 8, MOST_HOUSE_BYTES = 40, MOST_LOT_BYTES = 10;
    private static final int MOST_RAINS = 12, MOST_STRENGTH = 9, MOST_TILES = 9, MOST_PRICE = 9;
    private static final int MOST_RING = 5, MOST_DRY_HARM = 99, DIGEST_HARM = 3;
    private static final int MOST_WISH = 9, MOST_FACTS = 12, MOST_HANDS = 72, DIGEST_HANDS = 9;
    private static final int MOST_CLAIM = 999, BAD_CLAIM = -5, WISHES_HAD = -2;
    private static final int SHEETS = 4, MOST_ITEMS = 48, LEAST_INT = 1 << 31;

    /** Ways to own roofs are walked by the set of roofs taken so far: one place for each set. */
    private static final int SETS = 1 << MOST_HOUSES;

    private static final int TILES = 0, PURSE = 1, HARM = 2, LAID = 3, KINDS = 4;
    private static final int KEEPS = 0, GRUDGE = 1, FEARS = 2, TEMPERS = 4, FEARED_LEAK = 3;
    private static final String TEMPER_LETTERS = "kgfl";

    private static final int BYTES = 0, SHORTS = 1, INTS = 2;
    private static final int NULL = 1, INDEX = 2, CAST = 3, STORE = 4, SIZE = 5;

    private final Village village = new Village();
    private final Weather weather = new Weather();
    private final Story story = new Story(village, weather);
    private final Moods moods = new Moods(village, weather);
    private final Exchange exchange = new Exchange(village);
    private final Knowledge knowledge = new Knowledge(village);
    private final Helpers helpers = new Helpers(village, weather);
    private final int[] claims = new int[MOST_HOUSES];
    private final Sheet[] sheets = new Sheet[SHEETS];
    private int latestFinding;

    public RoofAcross() {
        for (int h = 0; h < MOST_HOUSES; h++) {
            claims[h] = NONE;
        }
        for (int s = 0; s < SHEETS; s++) {
            sheets[s] = new Sheet();
        }
    }

    // ---- houses, lots, rains

    public int type(int text, int b) {
        if (isOutside(text, 0, 1) || isOutside(b, 0, 255)) {
            return BAD;
        }
        return village.append(village.textOf(text), b);
    }

    public int wipe(int text) {
        if (isOutside(text, 0, 1)) {
            return BAD;
        }
        return village.clear(village.textOf(text));
    }

    public int fault(int text) {
        if (isOutside(text, 0, 1)) {
            return BAD;
        }
        return text == 0 ? village.housesFault : village.lotsFault;
    }

    public int house(int house, int what) {
        if (isNoHouse(house)) {
            return BAD;
        }
        switch (what) {
            case 0: return village.tiles[house];
            case 1: return village.purse[house];
            case 2: return village.temper[house];
            case 3: return village.owns[house];
            case 4: return village.owner[house];
            default: return BAD;
        }
    }

    public int rain(int strength) {
        return weather.take(strength);
    }

    public int read(int s) {
        if (isNoSheet(s)) {
            return BAD;
        }
        Sheet sheet = sheets[s];
        if (sheet.lost) {
            return find(NULL);
        }
        int taken = 0;
        while (taken < sheet.size && weather.take(sheet.items[taken]) >= 0) {
            taken++;
        }
        return taken;
    }

    public int undo() {
        return weather.takeBack();
    }

    public int set(int what, int v) {
        if (what == 0) {
            return isOutside(v, 1, MOST_PRICE) ? BAD : weather.changePrice(v);
        }
        if (what == 1) {
            return isOutside(v, 0, 1) ? BAD : weather.changeWear(v);
        }
        return BAD;
    }

    // ---- what becomes

    public int tiles(int house, int k) {
        return behind(TILES, house, k);
    }

    public int purse(int house, int k) {
        return behind(PURSE, house, k);
    }

    public int harm(int house, int k) {
        return behind(HARM, house, k);
    }

    public int laid(int house, int k) {
        return behind(LAID, house, k);
    }

    public int all(int k, int what) {
        if (isOutside(k, 0, weather.count) || isOutside(what, 0, KINDS - 1)) {
            return BAD;
        }
        int sum = 0;
        for (int h = 0; h < village.count; h++) {
            sum += story.rowOf(what)[k * MOST_HOUSES + h];
        }
        return sum;
    }

    public int ring(int house, int what) {
        if (isNoHouse(house) || isOutside(what, 0, 1)) {
            return BAD;
        }
        int bits = village.ring[house];
        return what == 0 ? bits : Integer.bitCount(bits);
    }

    public int dry(int house, int harm, int what) {
        if (isNoHouse(house) || isOutside(harm, 0, MOST_DRY_HARM) || isOutside(what, 0, 1)) {
            return BAD;
        }
        if (Integer.bitCount(village.ring[house]) > MOST_RING) {
            return FULL;
        }
        if (!moods.isTried(house, harm)) {
            moods.tryAll(village.ring[house], harm);
        }
        return what == 0 ? moods.rows[house] : moods.first[house];
    }

    // ---- changes

    public int wish(int house, int roof, int v) {
        if (isNoNumber(house) || isNoNumber(roof) || isOutside(v, 0, MOST_WISH)) {
            return BAD;
        }
        return exchange.change(house, roof, v);
    }

    public int want(int a, int b) {
        if (isNoHouse(a) || isNoHouse(b) || a == b) {
            return BAD;
        }
        return exchange.wouldChange(a, b, village.owns) ? 1 : 0;
    }

    public int market(int house) {
        if (house != NONE && house != WISHES_HAD && isNoHouse(house)) {
            return BAD;
        }
        exchange.bringMarketUp();
        if (house == NONE) {
            return exchange.marketChanges;
        }
        return house == WISHES_HAD ? exchange.marketWishes : exchange.marketRow[house];
    }

    public int best(int house) {
        if (house != NONE && isNoHouse(house)) {
            return BAD;
        }
        exchange.bringBestUp();
        return house == NONE ? exchange.bestWishes : exchange.bestRow[house];
    }

    // ---- who owns mine

    public int fact(int house, int roof, int is) {
        if (isNoNumber(house) || isNoNumber(roof) || isOutside(is, 0, 1)) {
            return BAD;
        }
        return knowledge.learn(house, roof, is);
    }

    public int forget() {
        return knowledge.clear();
    }

    public int could(int house) {
        if (house != NONE && isNoHouse(house)) {
            return BAD;
        }
        knowledge.bringUp();
        return house == NONE ? knowledge.ways : knowledge.possibleRoofs(house);
    }

    public int ask(int what) {
        if (isOutside(what, 0, 1)) {
            return BAD;
        }
        knowledge.bringUp();
        if (village.count == 0 || knowledge.ways == 0) {
            return NOT;
        }
        int whom = knowledge.whomToAsk();
        return what == 0 ? whom : knowledge.worstLeft(whom);
    }

    public int hands(int k, int house) {
        if (isOutside(k, 0, MOST_HANDS) || (house != NONE && isNoHouse(house))) {
            return BAD;
        }
        helpers.lay(k);
        return house == NONE ? helpers.harmOfAll() : helpers.tiles[house];
    }

    public int claim(int house, int v) {
        if (isNoNumber(house) || isOutside(v, NONE, MOST_CLAIM)) {
            return BAD_CLAIM;
        }
        int old = claims[house];
        claims[house] = v;
        return old;
    }

    public int liars() {
        int bits = 0;
        for (int h = 0; h < village.count; h++) {
            if (claims[h] != NONE && claims[h] != behind(HARM, h, weather.count)) {
                bits |= 1 << h;
            }
        }
        return bits;
    }

    // ---- sheets

    public int sheet(int s, int form, int n) {
        if (isNoSheet(s) || isNoForm(form) || n > MOST_ITEMS) {
            return BAD;
        }
        if (n < 0) {
            return find(SIZE);
        }
        sheets[s].makeNew(form, n);
        return n;
    }

    public int lose(int s) {
        if (isNoSheet(s)) {
            return BAD;
        }
        if (sheets[s].lost) {
            return find(NULL);
        }
        sheets[s].lost = true;
        return sheets[s].size;
    }

    public int put(int s, int form, int i, int v) {
        if (isNoSheet(s) || isNoForm(form)) {
            return BAD;
        }
        int finding = sheets[s].findingAt(form, i);
        if (finding != 0) {
            return find(finding);
        }
        sheets[s].store(i, v);
        return 1;
    }

    public int get(int s, int form, int i) {
        if (isNoSheet(s) || isNoForm(form)) {
            return LEAST_INT;
        }
        int finding = sheets[s].findingAt(form, i);
        if (finding != 0) {
            latestFinding = finding;
            return LEAST_INT;
        }
        return sheets[s].items[i];
    }

    public int copy(int s, int i, int t, int j, int n) {
        if (isNoSheet(s) || isNoSheet(t)) {
            return BAD;
        }
        Sheet from = sheets[s];
        Sheet to = sheets[t];
        if (from.lost || to.lost) {
            return find(NULL);
        }
        if (from.form != to.form) {
            return find(STORE);
        }
        if (from.lacks(i, n) || to.lacks(j, n)) {
            return find(INDEX);
        }
        System.arraycopy(from.items, i, to.items, j, n);
        return 1;
    }

    public int write(int s) {
        if (isNoSheet(s)) {
            return BAD;
        }
        Sheet sheet = sheets[s];
        if (sheet.lost) {
            return find(NULL);
        }
        int written = Math.min(sheet.size, village.count);
        for (int h = 0; h < written; h++) {
            sheet.store(h, behind(HARM, h, weather.count));
        }
        return written;
    }

    public int count(int what) {
        switch (what) {
            case 0: return village.count;
            case 1: return village.houses.size;
            case 2: return village.lots.size;
            case 3: return weather.count;
            case 4: return village.countRings();
            case 5: return knowledge.count;
            case 6: return weather.price;
            case 7: return weather.wear;
            case 8: return latestFinding;
            default: return BAD;
        }
    }

    public long digest() {
        long h = 17;
        for (int what = 0; what <= 7; what++) {
            h = 31 * h + count(what);
        }
        h = 31 * h + fault(0);
        h = 31 * h + fault(1);
        for (int it = 0; it < village.count; it++) {
            for (int what = 0; what <= 4; what++) {
                h = 31 * h + house(it, what);
            }
            for (int kind = 0; kind < KINDS; kind++) {
                h = 31 * h + behind(kind, it, weather.count);
            }
            h = 31 * h + ring(it, 0);
            h = 31 * h + ring(it, 1);
            h = 31 * h + dry(it, DIGEST_HARM, 0);
            h = 31 * h + dry(it, DIGEST_HARM, 1);
            h = 31 * h + market(it);
            h = 31 * h + best(it);
            h = 31 * h + could(it);
            h = 31 * h + hands(DIGEST_HANDS, it);
        }
        for (int what = 0; what < KINDS; what++) {
            h = 31 * h + all(weather.count, what);
        }
        h = 31 * h + market(NONE);
        h = 31 * h + market(WISHES_HAD);
        h = 31 * h + best(NONE);
        h = 31 * h + could(NONE);
        h = 31 * h + ask(0);
        h = 31 * h + ask(1);
        h = 31 * h + hands(DIGEST_HANDS, NONE);
        return 31 * h + liars();
    }

    private int behind(int kind, int house, int k) {
        if (isNoHouse(house) || isOutside(k, 0, weather.count)) {
            return BAD;
        }
        return story.rowOf(kind)[k * MOST_HOUSES + house];
    }

    private int find(int finding) {
        latestFinding = finding;
        return -10 - finding;
    }

    private boolean isNoHouse(int house) {
        return isOutside(house, 0, village.count - 1);
    }

    private static boolean isNoNumber(int house) {
        return isOutside(house, 0, MOST_HOUSES - 1);
    }

    private static boolean isNoSheet(int s) {
        return isOutside(s, 0, SHEETS - 1);
    }

    private static boolean isNoForm(int form) {
        return isOutside(form, BYTES, INTS);
    }

    private static boolean isOutside(int v, int least, int most) {
        return v < least || v > most;
    }

    private static boolean has(int bits, int place) {
        return (bits >> place & 1) == 1;
    }

    /** A text that is typed byte by byte. */
    private static final class Text {
        final int[] bytes = new int[MOST_HOUSE_BYTES];
        final int most;
        int size;

        Text(int most) {
            this.most = most;
        }

        boolean isFigureAt(int place) {
            return bytes[place] >= '0' && bytes[place] <= '9';
        }

        int figureAt(int place) {
            return bytes[place] - '0';
        }
    }

    /** What both texts tell; read anew whenever one of them changes. */
    private static final class Village {
        final Text houses = new Text(MOST_HOUSE_BYTES);
        final Text lots = new Text(MOST_LOT_BYTES);
        final int[] tiles = new int[MOST_HOUSES];
        final int[] purse = new int[MOST_HOUSES];
        final int[] temper = new int[MOST_HOUSES];
        final int[] owns = new int[MOST_HOUSES];
        final int[] owner = new int[MOST_HOUSES];
        final int[] ring = new int[MOST_HOUSES];
        int count;
        int housesFault = NONE;
        int lotsFault = NONE;
        int changes;

        Text textOf(int text) {
            return text == 0 ? houses : lots;
        }

        int append(Text text, int b) {
            if (text.size >= text.most) {
                return FULL;
            }
            text.bytes[text.size] = b;
            text.size++;
            readTexts();
            return text.size;
        }

        int clear(Text text) {
            int old = text.size;
            text.size = 0;
            readTexts();
            return old;
        }

        int countRings() {
            int rings = 0;
            for (int h = 0; h < count; h++) {
                // each ring has one least house
                if ((ring[h] & -ring[h]) == 1 << h) {
                    rings++;
                }
            }
            return rings;
        }

        private void readTexts() {
            changes++;
            housesFault = findHousesFault();
            readHouses();
            lotsFault = findLotsFault();
            readLots();
            readRings();
        }

        /** Each house takes three bytes and a ; behind it, so a byte's place tells its part. */
        private int findHousesFault() {
            for (int place = 0; place < houses.size; place++) {
                if (place / 4 >= MOST_HOUSES || !fitsInHouse(place)) {
                    return place;
                }
            }
            return houses.size == 0 || houses.size % 4 == 3 ? NONE : houses.size;
        }

        private boolean fitsInHouse(int place) {
            switch (place % 4) {
                case 2: return temperAt(place) >= 0;
                case 3: return houses.bytes[place] == ';';
                default: return houses.isFigureAt(place);
            }
        }

        private int temperAt(int place) {
            return TEMPER_LETTERS.indexOf((char) houses.bytes[place]);
        }

        private void readHouses() {
            count = housesFault == NONE ? (houses.size + 1) / 4 : 0;
            for (int h = 0; h < count; h++) {
                tiles[h] = houses.figureAt(4 * h);
                purse[h] = houses.figureAt(4 * h + 1);
                temper[h] = temperAt(4 * h + 2);
            }
        }

        private int findLotsFault() {
            int told = 0;
            for (int place = 0; place < lots.size; place++) {
                int figure = lots.figureAt(place);
                if (place >= count || isOutside(figure, 0, count - 1) || has(told, figure)) {
                    return place;
                }
                told |= 1 << figure;
            }
            return lots.size < count ? lots.size : NONE;
        }

        private void readLots() {
            for (int h = 0; h < count; h++) {
                int next = h + 1 < count ? h + 1 : 0;
                owns[h] = lotsFault == NONE ? lots.figureAt(h) : next;
                owner[owns[h]] = h;
            }
        }

        private void readRings() {
            for (int h = 0; h < count; h++) {
                int bits = 0;
                int at = h;
                for (int step = 0; step < count && !has(bits, at); step++) {
                    bits |= 1 << at;
                    at = owns[at];
                }
                ring[h] = bits;
            }
        }
    }

    /** Rains and what is set for all of them. */
    private static final class Weather {
        final int[] strengths = new int[MOST_RAINS];
        int count;
        int price = 1;
        int wear;
        int changes;

        int take(int strength) {
            if (isOutside(strength, 0, MOST_STRENGTH)) {
                return BAD;
            }
            if (count >= MOST_RAINS) {
                return FULL;
            }
            strengths[count] = strength;
            count++;
            changes++;
            return count;
        }

        int takeBack() {
            if (count == 0) {
                return NOT;
            }
            count--;
            changes++;
            return count;
        }

        int changePrice(int v) {
            int old = price;
            price = v;
            changes++;
            return old;
        }

        int changeWear(int v) {
            int old = wear;
            wear = v;
            changes++;
            return old;
        }
    }

    /**
     * Some houses as rains pass over them. They are whole rings: a roof's fate hangs on none but
     * its owner and that one's own roof, so other rings need not be looked at.
     */
    private static final class Course {
        final Village village;
        final Weather weather;
        final int[] who = new int[MOST_HOUSES];
        final int[] temper = new int[MOST_HOUSES];
        final int[] tiles = new int[MOST_HOUSES];
        final int[] purse = new int[MOST_HOUSES];
        final int[] harm = new int[MOST_HOUSES];
        final int[] laid = new int[MOST_HOUSES];
        final int[] leak = new int[MOST_HOUSES];
        int number;
        int laidNow;

        Course(Village village, Weather weather) {
            this.village = village;
            this.weather = weather;
        }

        void choose(int bits) {
            number = 0;
            for (int h = 0; h < village.count; h++) {
                if (has(bits, h)) {
                    who[number] = h;
                    number++;
                    temper[h] = village.temper[h];
                }
            }
        }

        void begin() {
            laidNow = 0;
            for (int i = 0; i < number; i++) {
                int h = who[i];
                tiles[h] = village.tiles[h];
                purse[h] = village.purse[h];
                harm[h] = 0;
                laid[h] = 0;
            }
        }

        void pass(int strength) {
            int laidBefore = laidNow;
            laidNow = 0;
            for (int i = 0; i < number; i++) {
                int h = who[i];
                leak[h] = Math.max(0, strength - tiles[h]);
                harm[h] += leak[h];
            }
            for (int i = 0; i < number; i++) {
                int h = who[i];
                boolean thanks = has(laidBefore, village.owner[h]);
                if (leak[h] > 0 && isLaidOn(h, thanks)) {
                    laidNow |= 1 << h;
                }
            }
            for (int i = 0; i < number; i++) {
                settle(who[i], has(laidNow, who[i]));
            }
        }

        /** Of a roof that leaks: no temper lays a tile on another one. */
        private boolean isLaidOn(int roof, boolean thanks) {
            int by = village.owner[roof];
            if (purse[by] < weather.price || tiles[roof] >= MOST_TILES) {
                return false;
            }
            switch (temper[by]) {
                case KEEPS: return true;
                case GRUDGE: return leak[by] == 0 || thanks;
                case FEARS: return leak[roof] >= FEARED_LEAK;
                default: return false;
            }
        }

        private void settle(int roof, boolean isLaid) {
            if (isLaid) {
                tiles[roof]++;
                laid[roof]++;
                purse[village.owner[roof]] -= weather.price;
            } else if (weather.wear == 1 && leak[roof] > 0 && tiles[roof] > 0) {
                tiles[roof]--;
            }
        }
    }

    /** What becomes of all houses, behind each rain. */
    private static final class Story {
        final Village village;
        final Weather weather;
        final Course course;
        final int[][] rows = new int[KINDS][(MOST_RAINS + 1) * MOST_HOUSES];
        int stamp = NONE;

        Story(Village village, Weather weather) {
            this.village = village;
            this.weather = weather;
            this.course = new Course(village, weather);
        }

        /** One kind of things: of each house behind no rain, then behind one, and so on. */
        int[] rowOf(int kind) {
            int now = village.changes + weather.changes;
            if (stamp != now) {
                stamp = now;
                tell();
            }
            return rows[kind];
        }

        private void tell() {
            course.choose(SETS - 1);
            course.begin();
            note(0);
            for (int k = 0; k < weather.count; k++) {
                course.pass(weather.strengths[k]);
                note(k + 1);
            }
        }

        private void note(int k) {
            for (int h = 0; h < village.count; h++) {
                int place = k * MOST_HOUSES + h;
                rows[TILES][place] = course.tiles[h];
                rows[PURSE][place] = course.purse[h];
                rows[HARM][place] = course.harm[h];
                rows[LAID][place] = course.laid[h];
            }
        }
    }

    /**
     * Which tempers keep a ring dry. A grudge hangs on what befalls the grudger's own roof, no
     * other temper does: so a roof's fate hangs on the nearest house up its chain of owners that
     * bears no grudge, on that one's temper, and on nothing behind it. It is enough, then, to let
     * the rains pass with each temper of each house among grudges, and to look all rows up there.
     */
    private static final class Moods {
        final Village village;
        final Weather weather;
        final Course course;
        final int[] limit = new int[MOST_HOUSES];
        final int[] rows = new int[MOST_HOUSES];
        final int[] first = new int[MOST_HOUSES];
        final int[] dryAmongGrudges = new int[MOST_HOUSES * TEMPERS];
        int stamp = NONE;

        Moods(Village village, Weather weather) {
            this.village = village;
            this.weather = weather;
            this.course = new Course(village, weather);
        }

        boolean isTried(int house, int harm) {
            int now = village.changes + weather.changes;
            if (stamp != now) {
                stamp = now;
                for (int h = 0; h < MOST_HOUSES; h++) {
                    limit[h] = NONE;
                }
            }
            return limit[house] == harm;
        }

        void tryAll(int ring, int harm) {
            course.choose(ring);
            for (int i = 0; i < course.number; i++) {
                for (int temper = 0; temper < TEMPERS; temper++) {
                    passAmongGrudges(course.who[i], temper, harm);
                }
            }
            int found = 0;
            int least = NONE;
            int codes = 1 << 2 * course.number;
            for (int code = 0; code < codes; code++) {
                if (keepsDry(code)) {
                    found++;
                    least = least == NONE ? code : least;
                }
            }
            for (int i = 0; i < course.number; i++) {
                int h = course.who[i];
                limit[h] = harm;
                rows[h] = found;
                first[h] = least;
            }
        }

        private void passAmongGrudges(int house, int temper, int harm) {
            for (int i = 0; i < course.number; i++) {
                course.temper[course.who[i]] = GRUDGE;
            }
            course.temper[house] = temper;
            course.begin();
            for (int k = 0; k < weather.count; k++) {
                course.pass(weather.strengths[k]);
            }
            int dry = 0;
            for (int i = 0; i < course.number; i++) {
                int h = course.who[i];
                dry |= course.harm[h] <= harm ? 1 << h : 0;
            }
            dryAmongGrudges[house * TEMPERS + temper] = dry;
        }

        private boolean keepsDry(int code) {
            int rest = code;
            for (int i = course.number - 1; i >= 0; i--) {
                course.temper[course.who[i]] = rest & 3;
                rest >>= 2;
            }
            for (int i = 0; i < course.number; i++) {
                int by = village.owner[course.who[i]];
                for (int n = 1; n < course.number && course.temper[by] == GRUDGE; n++) {
                    by = village.owner[by];
                }
                if (!has(dryAmongGrudges[by * TEMPERS + course.temper[by]], course.who[i])) {
                    return false;
                }
            }
            return true;
        }
    }

    /** Wishes, and the ways to own roofs that come of them. */
    private static final class Exchange {
        /** Far above any run: each change adds two wishes at least, of 72 that can be had. */
        private static final int MOST_CHANGES = 1000;

        final Village village;
        final int[][] wishes = new int[MOST_HOUSES][MOST_HOUSES];
        final int[] marketRow = new int[MOST_HOUSES];
        final int[] bestRow = new int[MOST_HOUSES];
        final int[] bestFrom = new int[SETS];
        int marketChanges;
        int marketWishes;
        int bestWishes;
        int changes;
        int marketStamp = NONE;
        int bestStamp = NONE;

        Exchange(Village village) {
            this.village = village;
        }

        int change(int house, int roof, int v) {
            int old = wishes[house][roof];
            wishes[house][roof] = v;
            changes++;
            return old;
        }

        boolean wouldChange(int a, int b, int[] owns) {
            return wishes[a][owns[b]] > wishes[a][owns[a]] && wishes[b][owns[a]] > wishes[b][owns[b]];
        }

        void bringMarketUp() {
            int now = village.changes + changes;
            if (marketStamp == now) {
                return;
            }
            marketStamp = now;
            System.arraycopy(village.owns, 0, marketRow, 0, village.count);
            marketChanges = 0;
            while (marketChanges < MOST_CHANGES && changeFirstPair()) {
                marketChanges++;
            }
            marketWishes = 0;
            for (int h = 0; h < village.count; h++) {
                marketWishes += wishes[h][marketRow[h]];
            }
        }

        private boolean changeFirstPair() {
            for (int a = 0; a < village.count; a++) {
                for (int b = a + 1; b < village.count; b++) {
                    if (wouldChange(a, b, marketRow)) {
                        int roof = marketRow[a];
                        marketRow[a] = marketRow[b];
                        marketRow[b] = roof;
                        return true;
                    }
                }
            }
            return false;
        }

        void bringBestUp() {
            int now = village.changes + changes;
            if (bestStamp == now) {
                return;
            }
            bestStamp = now;
            int every = (1 << village.count) - 1;
            bestFrom[every] = 0;
            for (int taken = every - 1; taken >= 0; taken--) {
                int house = Integer.bitCount(taken);
                bestFrom[taken] = had(house, bestRoof(house, taken), taken);
            }
            bestWishes = bestFrom[0];
            int taken = 0;
            for (int h = 0; h < village.count; h++) {
                bestRow[h] = bestRoof(h, taken);
                taken |= 1 << bestRow[h];
            }
        }

        /** The least of the best roofs for a house when those ahead of it have taken theirs. */
        private int bestRoof(int house, int taken) {
            int roof = 0;
            int most = NONE;
            for (int r = 0; r < village.count; r++) {
                if (!has(taken, r) && had(house, r, taken) > most) {
                    most = had(house, r, taken);
                    roof = r;
                }
            }
            return roof;
        }

        /** Wishes that this house and all behind it have at best, if it takes that roof. */
        private int had(int house, int roof, int taken) {
            return wishes[house][roof] + bestFrom[taken | 1 << roof];
        }
    }

    /** Facts, and the ways to own roofs that agree with them. */
    private static final class Knowledge {
        final Village village;
        final int[] houses = new int[MOST_FACTS];
        final int[] roofs = new int[MOST_FACTS];
        final int[] is = new int[MOST_FACTS];
        final int[] open = new int[MOST_HOUSES];
        final int[] waysTo = new int[SETS];
        final int[] waysFrom = new int[SETS];
        final int[][] waysWith = new int[MOST_HOUSES][MOST_HOUSES];
        int count;
        int ways;
        int changes;
        int stamp = NONE;

        Knowledge(Village village) {
            this.village = village;
        }

        int learn(int house, int roof, int isSo) {
            if (count >= MOST_FACTS) {
                return FULL;
            }
            houses[count] = house;
            roofs[count] = roof;
            is[count] = isSo;
            count++;
            changes++;
            return count;
        }

        int clear() {
            int old = count;
            count = 0;
            changes++;
            return old;
        }

        void bringUp() {
            int now = village.changes + changes;
            if (stamp == now) {
                return;
            }
            stamp = now;
            int every = (1 << village.count) - 1;
            boolean possible = readFacts(every);
            countBehind(every);
            countAhead(every);
            countEach(every);
            ways = possible ? waysFrom[0] : 0;
        }

        /** Which roofs are open to each house; false, if a fact can never be so. */
        private boolean readFacts(int every) {
            boolean possible = true;
            for (int h = 0; h < village.count; h++) {
                open[h] = every;
            }
            for (int f = 0; f < count; f++) {
                boolean there = houses[f] < village.count && roofs[f] < village.count;
                int bit = 1 << roofs[f];
                if (there) {
                    open[houses[f]] &= is[f] == 1 ? bit : ~bit;
                } else if (is[f] == 1) {
                    possible = false;
                }
            }
            for (int h = 0; h < village.count; h++) {
                open[h] = possible ? open[h] : 0;
            }
            return possible;
        }

        /** Houses take roofs by their numbers, so as many are served as roofs are taken. */
        private void countBehind(int every) {
            waysFrom[every] = 1;
            for (int taken = every - 1; taken >= 0; taken--) {
                int free = open[Integer.bitCount(taken)] & ~taken;
                int sum = 0;
                for (int r = 0; r < village.count; r++) {
                    sum += has(free, r) ? waysFrom[taken | 1 << r] : 0;
                }
                waysFrom[taken] = sum;
            }
        }

        private void countAhead(int every) {
            waysTo[0] = 1;
            for (int taken = 1; taken <= every; taken++) {
                int last = Integer.bitCount(taken) - 1;
                int given = open[last] & taken;
                int sum = 0;
                for (int r = 0; r < village.count; r++) {
                    sum += has(given, r) ? waysTo[taken & ~(1 << r)] : 0;
                }
                waysTo[taken] = sum;
            }
        }

        private void countEach(int every) {
            for (int h = 0; h < village.count; h++) {
                for (int r = 0; r < village.count; r++) {
                    waysWith[h][r] = 0;
                }
            }
            for (int taken = 0; taken < every; taken++) {
                int house = Integer.bitCount(taken);
                int free = open[house] & ~taken;
                for (int r = 0; r < village.count; r++) {
                    if (has(free, r)) {
                        waysWith[house][r] += waysTo[taken] * waysFrom[taken | 1 << r];
                    }
                }
            }
        }

        int possibleRoofs(int house) {
            int bits = 0;
            for (int r = 0; r < village.count; r++) {
                if (waysWith[house][r] > 0) {
                    bits |= 1 << r;
                }
            }
            return bits;
        }

        int whomToAsk() {
            int whom = 0;
            for (int h = 1; h < village.count; h++) {
                if (worstLeft(h) < worstLeft(whom)) {
                    whom = h;
                }
            }
            return whom;
        }

        int worstLeft(int house) {
            int worst = 0;
            for (int r = 0; r < village.count; r++) {
                worst = Math.max(worst, waysWith[house][r]);
            }
            return worst;
        }
    }

    /** Tiles that are laid ahead of all rains. */
    private static final class Helpers {
        final Village village;
        final Weather weather;
        final int[] tiles = new int[MOST_HOUSES];

        Helpers(Village village, Weather weather) {
            this.village = village;
            this.weather = weather;
        }

        void lay(int k) {
            System.arraycopy(village.tiles, 0, tiles, 0, village.count);
            for (int n = 0; n < k; n++) {
                int roof = neediest();
                if (roof == NONE) {
                    return;
                }
                tiles[roof]++;
            }
        }

        /** A full roof is never wet, as no rain is stronger than it: none gets a tenth tile. */
        private int neediest() {
            int roof = NONE;
            int most = 0;
            for (int h = 0; h < village.count; h++) {
                int less = rainsAbove(tiles[h]);
                if (less > most) {
                    most = less;
                    roof = h;
                }
            }
            return roof;
        }

        /** One tile more takes away one harm of each rain that is stronger than the roof. */
        private int rainsAbove(int roofTiles) {
            int rains = 0;
            for (int k = 0; k < weather.count; k++) {
                if (weather.strengths[k] > roofTiles) {
                    rains++;
                }
            }
            return rains;
        }

        int harmOfAll() {
            int sum = 0;
            for (int h = 0; h < village.count; h++) {
                for (int k = 0; k < weather.count; k++) {
                    sum += Math.max(0, weather.strengths[k] - tiles[h]);
                }
            }
            return sum;
        }
    }

    /** A row of items of a form, or lost; its items are ints that keep to the form's bits. */
    private static final class Sheet {
        final int[] items = new int[MOST_ITEMS];
        boolean lost = true;
        int form;
        int size;

        void makeNew(int newForm, int n) {
            lost = false;
            form = newForm;
            size = n;
            for (int i = 0; i < n; i++) {
                items[i] = 0;
            }
        }

        /** What hinders one from using item i as of a form; 0, if nothing does. */
        int findingAt(int asForm, int i) {
            if (lost) {
                return NULL;
            }
            if (form != asForm) {
                return CAST;
            }
            return isOutside(i, 0, size - 1) ? INDEX : 0;
        }

        boolean lacks(int from, int n) {
            return from < 0 || n < 0 || from > size || n > size - from;
        }

        void store(int i, int v) {
            if (form == BYTES) {
                items[i] = (byte) v;
            } else if (form == SHORTS) {
                items[i] = (short) v;
            } else {
                items[i] = v;
            }
        }
    }
}
