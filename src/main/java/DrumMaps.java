/** Drums are maps: a forest, its drums, and the travellers who go by what the drums tell. */
public final class DrumMaps {
    public static final int BAD = -1, NO = -2, FULL = -3, NONE = -4;

    private static final String FIRST_TEXT = "r00123;r01110;r32010;r00130;d0;d1;d2;d3;x0,7,0;x0,13,3;x1,1,2;x2,11,0;x3,18,0;t0,19,0;t4,15,1;t15,4,2;t10,9,3;w1;";

    private static final int MOST_LETTERS = 200, FIRST_LETTER = 32, LAST_LETTER = 126;
    private static final int MOST_ROWS = 6, MOST_IN_ROW = 6, MOST_PLACES = 36, SIDES = 4;
    private static final int MOST_DRUMS = 4, MOST_TRAVELLERS = 4;
    private static final int MOST_UNDONE = 8, MOST_KEPT = 2, MOST_HEARD = 8;
    private static final int MOST_PASSED = 24, LOOKED_AHEAD = 60, MOST_SEEN = 30;
    private static final int MOST_RAINS = 8, TENTHS = 10, LAST_YEAR = 9999, LONGEST_YEAR = 60;
    private static final int DRAWS = 65521;

    private static final int OPEN = 0, WOOD = 1, HILL = 2, FORD = 3;
    private static final int ANTELOPE = 1, OLD = 2, TOY = 3;
    private static final int WETTEST = 3, SOAKED = 2;
    private static final int GOES = 0, THERE = 1, LOST = 2;

    /** More hours than any way takes: two of these together are no overflow yet. */
    private static final int FAR_OFF = 1000000;
    private static final int AS_IT_IS = -1;
    private static final int NOT_SO = -1;

    private final Text text = new Text();
    private final Reader reader = new Reader();
    private final Land land = new Land();
    private final Forest now = new Forest();
    private final Shelf undone = new Shelf(MOST_UNDONE);
    private final Shelf kept = new Shelf(MOST_KEPT);
    private final Row heardPlaces = new Row(MOST_HEARD);
    private final Row heardTold = new Row(MOST_HEARD);
    private int heard;

    // What is only looked at ahead happens to these, so that no call makes objects and none changes the forest.
    private final Forest supposed = new Forest();
    private final Traveller walker = new Traveller();
    private final Traveller otherWalker = new Traveller();
    private final Ways ways = new Ways();
    private final Ways otherWays = new Ways();

    public DrumMaps() {
        for (int i = 0; i < FIRST_TEXT.length(); i++) {
            text.add(FIRST_TEXT.charAt(i));
        }
        layText();
        text.length = 0;
    }

    // ---- forests

    public int write(int letter) {
        if (!within(letter, FIRST_LETTER, LAST_LETTER)) {
            return BAD;
        }
        return text.add(letter) ? text.length : FULL;
    }

    public int wipe() {
        int was = text.length;
        text.length = 0;
        return was;
    }

    public int fault() {
        return reader.firstFault(text);
    }

    public int lay() {
        return layText() ? land.places : NO;
    }

    public int place(int x) {
        return land.hasPlace(x) ? land.ground.at(x) : BAD;
    }

    public int drum(int d, int x, int what) {
        if (!land.hasDrum(d) || !land.hasPlace(x)) {
            return BAD;
        }
        switch (what) {
            case 0: return now.tells(land, d, x);
            case 1: return now.takes(land, d, x);
            case 2: return loudness(now.tells(land, d, x), now.wet);
            default: return BAD;
        }
    }

    public int kind(int d) {
        return land.hasDrum(d) ? land.kinds.at(d) : BAD;
    }

    public int traveller(int t, int what) {
        if (!land.hasTraveller(t)) {
            return BAD;
        }
        Traveller who = now.who(t);
        switch (what) {
            case 0: return who.place;
            case 1: return who.goal;
            case 2: return who.drum;
            case 3: return who.state;
            case 4: return who.isOnHisWay() ? who.toward : NONE;
            case 5: return who.left;
            default: return BAD;
        }
    }

    public int route(int d, int x, int y, int what) {
        if (!land.hasDrum(d) || !land.hasPlace(x) || !land.hasPlace(y) || !within(what, 0, 1)) {
            return BAD;
        }
        ways.learnByDrum(land, now, d, y);
        return what == 0 ? ways.hoursFrom(x) : ways.firstFrom(land, x);
    }

    public int truth(int x, int y) {
        if (!land.hasPlace(x) || !land.hasPlace(y)) {
            return BAD;
        }
        ways.learnInTruth(land, now.wet, y);
        return ways.hoursFrom(x);
    }

    // ---- hours

    public int pass(int n) {
        if (!within(n, 1, MOST_PASSED)) {
            return BAD;
        }
        undone.add(now);
        for (int i = 0; i < n; i++) {
            letHourPass(now);
        }
        return now.hours;
    }

    public int rain(int w) {
        if (!within(w, 0, WETTEST)) {
            return BAD;
        }
        undone.add(now);
        int was = now.wet;
        now.wet = w;
        return was;
    }

    public int retune(int d, int x, int v) {
        if (!land.hasDrum(d) || !land.hasPlace(x) || !within(v, OPEN, FORD)) {
            return BAD;
        }
        undone.add(now);
        int was = now.tells(land, d, x);
        now.setTold(d, x, v);
        return was;
    }

    public int give(int t, int d) {
        if (!land.hasTraveller(t) || !land.hasDrum(d)) {
            return BAD;
        }
        Traveller who = now.who(t);
        if (who.state != GOES) {
            return NO;
        }
        undone.add(now);
        int had = who.drum;
        who.drum = d;
        return had;
    }

    public int send(int t, int y) {
        if (!land.hasTraveller(t) || !land.hasPlace(y)) {
            return BAD;
        }
        Traveller who = now.who(t);
        if (who.state == LOST) {
            return NO;
        }
        undone.add(now);
        who.goTo(y);
        return who.state == THERE ? 1 : 0;
    }

    public int undo() {
        return undone.takeInto(now) ? undone.size : NO;
    }

    // ---- what comes

    public int arrives(int t) {
        if (!land.hasTraveller(t)) {
            return BAD;
        }
        walker.copyFrom(now.who(t));
        return hoursUntil(now, THERE);
    }

    public int loses(int t) {
        if (!land.hasTraveller(t)) {
            return BAD;
        }
        walker.copyFrom(now.who(t));
        return hoursUntil(now, LOST);
    }

    public int led(int d, int x, int y) {
        if (!land.hasDrum(d) || !land.hasPlace(x) || !land.hasPlace(y)) {
            return BAD;
        }
        return hoursLed(d, x, y);
    }

    public int fastest(int t) {
        if (!land.hasTraveller(t)) {
            return BAD;
        }
        Traveller who = now.who(t);
        if (who.state != GOES) {
            return NO;
        }
        int best = NONE;
        int soonest = FAR_OFF;
        for (int d = 0; d < land.drums; d++) {
            int hours = hoursToArrive(now, who, d);
            if (hours != NONE && hours < soonest) {
                soonest = hours;
                best = d;
            }
        }
        return best;
    }

    public int tune(int t) {
        if (!land.hasTraveller(t)) {
            return BAD;
        }
        Traveller who = now.who(t);
        if (who.state != GOES) {
            return NO;
        }
        int asItIs = hoursToArrive(now, who, who.drum);
        int soonest = asItIs == NONE ? FAR_OFF : asItIs;
        int best = NONE;
        supposed.copyFrom(now);
        for (int x = 0; x < land.places; x++) {
            int told = now.tells(land, who.drum, x);
            supposed.setTold(who.drum, x, AS_IT_IS);
            int hours = told == land.ground.at(x) ? NONE : hoursToArrive(supposed, who, who.drum);
            supposed.setTold(who.drum, x, told);
            if (hours != NONE && hours < soonest) {
                soonest = hours;
                best = x;
            }
        }
        return best;
    }

    public int meet(int t, int u) {
        if (!land.hasTraveller(t) || !land.hasTraveller(u) || t == u) {
            return BAD;
        }
        walker.copyFrom(now.who(t));
        otherWalker.copyFrom(now.who(u));
        ways.learnByDrum(land, now, walker.drum, walker.goal);
        otherWays.learnByDrum(land, now, otherWalker.drum, otherWalker.goal);
        for (int hours = 0; hours <= LOOKED_AHEAD; hours++) {
            if (walker.isWith(otherWalker)) {
                return hours;
            }
            walkHour(walker, ways, now.wet);
            walkHour(otherWalker, otherWays, now.wet);
        }
        return NONE;
    }

    public int clash(int d, int e, int what) {
        if (!land.hasDrum(d) || !land.hasDrum(e) || d == e || !within(what, 0, 1)) {
            return BAD;
        }
        int many = 0;
        int lowest = NONE;
        for (int x = 0; x < land.places; x++) {
            if (now.tells(land, d, x) != now.tells(land, e, x)) {
                many++;
                lowest = lowest == NONE ? x : lowest;
            }
        }
        return what == 0 ? many : lowest;
    }

    public int right(int x, int y) {
        if (!land.hasPlace(x) || !land.hasPlace(y)) {
            return BAD;
        }
        ways.learnInTruth(land, now.wet, y);
        int inTruth = ways.hoursFrom(x);
        int bits = 0;
        if (inTruth == NONE) {
            return bits;
        }
        for (int d = 0; d < land.drums; d++) {
            int hours = hoursLed(d, x, y);
            if (hours != NONE && hours <= inTruth) {
                bits |= 1 << d;
            }
        }
        return bits;
    }

    // ---- what was heard

    public int hear(int x, int v) {
        if (!land.hasPlace(x) || !within(v, OPEN, FORD)) {
            return BAD;
        }
        if (heard >= MOST_HEARD) {
            return FULL;
        }
        heardPlaces.put(heard, x);
        heardTold.put(heard, v);
        heard++;
        return heard;
    }

    public int forget() {
        int were = heard;
        heard = 0;
        return were;
    }

    public int which() {
        int bits = 0;
        for (int d = 0; d < land.drums; d++) {
            if (toldAllHeard(d)) {
                bits |= 1 << d;
            }
        }
        return bits;
    }

    public int seen(int t, int x, int n) {
        if (!land.hasTraveller(t) || !land.hasPlace(x) || !within(n, 0, MOST_SEEN)) {
            return BAD;
        }
        int bits = 0;
        for (int d = 0; d < land.drums; d++) {
            if (placeBehind(now.who(t), d, n) == x) {
                bits |= 1 << d;
            }
        }
        return bits;
    }

    // ---- rain, years

    public int rains(int t, int n, int x, int part) {
        if (!land.hasTraveller(t) || !within(n, 0, MOST_RAINS) || !within(x, 0, TENTHS) || !within(part, 0, 1)) {
            return BAD;
        }
        Traveller who = now.who(t);
        ways.learnByDrum(land, now, who.drum, who.goal);
        supposed.copyFrom(now);
        supposed.wet = WETTEST;
        otherWays.learnByDrum(land, supposed, who.drum, who.goal);
        int below = 1;
        for (int hour = 0; hour < n; hour++) {
            below *= TENTHS;
        }
        int above = 0;
        for (int rainy = 0; rainy < 1 << n; rainy++) {
            above += weightIfThere(who, rainy, n, x);
        }
        int shared = greatestDivisor(below, above);
        int asked = part == 0 ? above : below;
        return shared > 0 ? asked / shared : asked;
    }

    public int year(int z, int n, int what) {
        if (!within(z, 0, LAST_YEAR) || !within(n, 1, LONGEST_YEAR) || !within(what, 0, 1)) {
            return BAD;
        }
        supposed.copyFrom(now);
        for (int k = 0; k < n; k++) {
            stir(supposed, drawOf(z, k));
            letHourPass(supposed);
        }
        return supposed.howMany(land, what == 0 ? THERE : LOST);
    }

    public int keep() {
        if (kept.isFull()) {
            return FULL;
        }
        kept.add(now);
        return kept.size;
    }

    public int back() {
        if (!kept.takeInto(now)) {
            return NO;
        }
        undone.size = 0;
        return kept.size;
    }

    public int count(int what) {
        switch (what) {
            case 0: return land.places;
            case 1: return land.width;
            case 2: return land.drums;
            case 3: return land.travellers;
            case 4: return now.wet;
            case 5: return now.hours;
            case 6: return now.howMany(land, THERE);
            case 7: return now.howMany(land, LOST);
            case 8: return sure();
            case 9: return heard;
            case 10: return undone.size;
            case 11: return kept.size;
            case 12: return text.length;
            default: return BAD;
        }
    }

    // ---- how the calls do it

    private static boolean within(int number, int lowest, int highest) {
        return number >= lowest && number <= highest;
    }

    private static int figureOf(int letter) {
        return letter >= '0' && letter <= '9' ? letter - '0' : NOT_SO;
    }

    private static int modulo(int number, int many) {
        return many > 0 ? number % many : 0;
    }

    private static int greatestDivisor(int a, int b) {
        int large = a;
        int small = b;
        // The two shrink as in Euclid's way: ints never take fifty turns.
        for (int turn = 0; turn < 100 && small != 0; turn++) {
            int rest = large % small;
            large = small;
            small = rest;
        }
        return large;
    }

    /** Hours to enter a place of this ground; FAR_OFF if it can not be entered. */
    private static int hoursToEnter(int ground, int wet) {
        int more = wet >= SOAKED ? 1 : 0;
        switch (ground) {
            case WOOD: return 2 + more;
            case HILL: return 3 + more;
            case FORD: return wet >= SOAKED ? FAR_OFF : 1;
            default: return 1 + more;
        }
    }

    private static int loudness(int told, int wet) {
        switch (told) {
            case OPEN: return 9 - wet;
            case WOOD: return 6 - wet;
            case HILL: return 4 - wet;
            default: return 0;
        }
    }

    /** False, and nothing changed, if the text can not be laid. */
    private boolean layText() {
        if (reader.firstFault(text) != NONE || reader.land.places == 0 || reader.land.drums == 0) {
            return false;
        }
        land.copyFrom(reader.land);
        land.linkPlaces();
        now.copyFrom(reader.forest);
        heard = 0;
        undone.size = 0;
        kept.size = 0;
        return true;
    }

    private void letHourPass(Forest forest) {
        for (int t = 0; t < land.travellers; t++) {
            Traveller who = forest.who(t);
            if (who.mustSetOut()) {
                ways.learnByDrum(land, forest, who.drum, who.goal);
            }
            walkHour(who, ways, forest.wet);
        }
        forest.hours++;
    }

    /** An hour of one traveller; the ways are those by his drum to his goal when it is so wet. */
    private void walkHour(Traveller who, Ways known, int wet) {
        if (who.mustSetOut()) {
            setOut(who, known.firstFrom(land, who.place), wet);
        }
        if (who.isOnHisWay()) {
            who.goOn();
        }
    }

    private void setOut(Traveller who, int first, int wet) {
        if (first == NONE) {
            return;
        }
        int hours = hoursToEnter(land.ground.at(first), wet);
        if (hours >= FAR_OFF) {
            who.state = LOST;
            return;
        }
        who.toward = first;
        who.left = hours;
    }

    /** Hours until the walker's state is that one, NONE if not within those looked ahead. */
    private int hoursUntil(Forest forest, int state) {
        ways.learnByDrum(land, forest, walker.drum, walker.goal);
        for (int hours = 0; hours <= LOOKED_AHEAD; hours++) {
            if (walker.state == state) {
                return hours;
            }
            walkHour(walker, ways, forest.wet);
        }
        return NONE;
    }

    private int hoursToArrive(Forest forest, Traveller who, int drum) {
        walker.copyFrom(who);
        walker.drum = drum;
        return hoursUntil(forest, THERE);
    }

    private int hoursLed(int drum, int from, int goal) {
        walker.start(from, goal, drum);
        return hoursUntil(now, THERE);
    }

    private int placeBehind(Traveller who, int drum, int hours) {
        walker.copyFrom(who);
        walker.drum = drum;
        ways.learnByDrum(land, now, walker.drum, walker.goal);
        for (int hour = 0; hour < hours; hour++) {
            walkHour(walker, ways, now.wet);
        }
        return walker.place;
    }

    private int sure() {
        int many = 0;
        for (int x = 0; x < land.places; x++) {
            boolean allRight = true;
            for (int d = 0; d < land.drums; d++) {
                allRight = allRight && now.tells(land, d, x) == land.ground.at(x);
            }
            many += allRight ? 1 : 0;
        }
        return many;
    }

    private boolean toldAllHeard(int drum) {
        for (int i = 0; i < heard; i++) {
            if (now.tells(land, drum, heardPlaces.at(i)) != heardTold.at(i)) {
                return false;
            }
        }
        return true;
    }

    /** How many of 10 to the power of n draws bring these rainy hours (bits), if he is there behind them, else 0. */
    private int weightIfThere(Traveller who, int rainy, int n, int tenths) {
        walker.copyFrom(who);
        int weight = 1;
        for (int hour = 0; hour < n && weight > 0; hour++) {
            if ((rainy >> hour & 1) == 1) {
                weight *= tenths;
                walkHour(walker, otherWays, WETTEST);
            } else {
                weight *= TENTHS - tenths;
                walkHour(walker, ways, now.wet);
            }
        }
        return walker.state == THERE ? weight : 0;
    }

    private static int drawOf(int z, int k) {
        long x = 7919L * z + 6151L * k + 1;
        return (int) (x * x % DRAWS);
    }

    /** What a draw brings ahead of an hour of a year. */
    private void stir(Forest forest, int draw) {
        int first = draw / 8;
        int x = modulo(draw / 32, land.places);
        switch (draw % 8) {
            case 0:
                forest.wet = first % 4;
                break;
            case 1:
                forest.setTold(modulo(first, land.drums), x, draw / 2048 % 4);
                break;
            case 2:
                sendIfHeCan(forest, modulo(first, land.travellers), x);
                break;
            default:
                break;
        }
    }

    private void sendIfHeCan(Forest forest, int t, int x) {
        if (land.hasTraveller(t) && forest.who(t).state != LOST) {
            forest.who(t).goTo(x);
        }
    }

    /** A row of numbers whose every index is looked at here, and nowhere else. */
    private static final class Row {
        private final int[] cells;

        Row(int size) {
            cells = new int[size > 0 ? size : 0];
        }

        int at(int i) {
            return i >= 0 && i < cells.length ? cells[i] : 0;
        }

        void put(int i, int number) {
            if (i >= 0 && i < cells.length) {
                cells[i] = number;
            }
        }

        void fill(int number) {
            for (int i = 0; i < cells.length; i++) {
                cells[i] = number;
            }
        }

        void copyFrom(Row other) {
            System.arraycopy(other.cells, 0, cells, 0, Math.min(cells.length, other.cells.length));
        }
    }

    private static final class Text {
        private final int[] letters = new int[MOST_LETTERS];
        int length;

        boolean add(int letter) {
            if (length < 0 || length >= letters.length) {
                return false;
            }
            letters[length] = letter;
            length++;
            return true;
        }

        /** 0, which no letter is, beyond the end. */
        int letterAt(int i) {
            return i >= 0 && i < length && i < letters.length ? letters[i] : 0;
        }
    }

    /** What stays as it was laid: the places, the drums' kinds, how many travellers. */
    private static final class Land {
        final Row ground = new Row(MOST_PLACES);
        final Row kinds = new Row(MOST_DRUMS);
        final Row beside = new Row(MOST_PLACES * SIDES);
        int places;
        int width;
        int rows;
        int drums;
        int travellers;

        boolean hasPlace(int x) {
            return x >= 0 && x < places;
        }

        boolean hasDrum(int d) {
            return d >= 0 && d < drums;
        }

        boolean hasTraveller(int t) {
            return t >= 0 && t < travellers;
        }

        void clear() {
            places = 0;
            width = 0;
            rows = 0;
            drums = 0;
            travellers = 0;
        }

        void copyFrom(Land other) {
            ground.copyFrom(other.ground);
            kinds.copyFrom(other.kinds);
            places = other.places;
            width = other.width;
            rows = other.rows;
            drums = other.drums;
            travellers = other.travellers;
        }

        /** The sides stand from the lowest place to the highest, so that the first found is the lowest. */
        void linkPlaces() {
            for (int x = 0; x < places; x++) {
                int column = modulo(x, width);
                beside.put(x * SIDES, x >= width ? x - width : NONE);
                beside.put(x * SIDES + 1, column > 0 ? x - 1 : NONE);
                beside.put(x * SIDES + 2, column + 1 < width ? x + 1 : NONE);
                beside.put(x * SIDES + 3, x + width < places ? x + width : NONE);
            }
        }
    }

    private static final class Traveller {
        int place;
        int goal;
        int drum;
        int state;
        int toward;
        int left;

        void start(int from, int to, int by) {
            place = from;
            toward = from;
            left = 0;
            drum = by;
            goTo(to);
        }

        void goTo(int to) {
            goal = to;
            state = left == 0 && place == to ? THERE : GOES;
        }

        boolean isOnHisWay() {
            return left > 0;
        }

        boolean mustSetOut() {
            return state == GOES && left == 0;
        }

        void goOn() {
            left--;
            if (left == 0) {
                place = toward;
                state = place == goal ? THERE : GOES;
            }
        }

        boolean isWith(Traveller other) {
            return left == 0 && other.left == 0 && place == other.place;
        }

        void copyFrom(Traveller other) {
            place = other.place;
            goal = other.goal;
            drum = other.drum;
            state = other.state;
            toward = other.toward;
            left = other.left;
        }
    }

    /** What hours, rain and hands change. */
    private static final class Forest {
        private final Row told = new Row(MOST_DRUMS * MOST_PLACES);
        private final Traveller[] travellers = new Traveller[MOST_TRAVELLERS];
        int wet;
        int hours;

        Forest() {
            for (int t = 0; t < travellers.length; t++) {
                travellers[t] = new Traveller();
            }
        }

        Traveller who(int t) {
            return travellers[t >= 0 && t < travellers.length ? t : 0];
        }

        void clear() {
            told.fill(AS_IT_IS);
            wet = 0;
            hours = 0;
        }

        void setTold(int d, int x, int v) {
            told.put(d * MOST_PLACES + x, v);
        }

        int tells(Land land, int d, int x) {
            int otherwise = told.at(d * MOST_PLACES + x);
            return otherwise == AS_IT_IS ? land.ground.at(x) : otherwise;
        }

        int takes(Land land, int d, int x) {
            int said = tells(land, d, x);
            switch (land.kinds.at(d)) {
                case ANTELOPE: return said == WOOD ? OPEN : said;
                case OLD: return said == HILL ? OPEN : said;
                case TOY: return said == FORD ? OPEN : said;
                default: return said;
            }
        }

        int howMany(Land land, int state) {
            int many = 0;
            for (int t = 0; t < land.travellers; t++) {
                many += who(t).state == state ? 1 : 0;
            }
            return many;
        }

        void copyFrom(Forest other) {
            told.copyFrom(other.told);
            for (int t = 0; t < MOST_TRAVELLERS; t++) {
                who(t).copyFrom(other.who(t));
            }
            wet = other.wet;
            hours = other.hours;
        }
    }

    /** Forests as they stood, one on the other; beyond its measure the lowest falls out. */
    private static final class Shelf {
        private final Forest[] stood;
        int size;

        Shelf(int most) {
            stood = new Forest[most > 0 ? most : 0];
            for (int i = 0; i < stood.length; i++) {
                stood[i] = new Forest();
            }
        }

        boolean isFull() {
            return size >= stood.length;
        }

        void add(Forest forest) {
            if (isFull()) {
                dropLowest();
            }
            if (size >= 0 && size < stood.length) {
                stood[size].copyFrom(forest);
                size++;
            }
        }

        private void dropLowest() {
            if (stood.length == 0) {
                return;
            }
            Forest lowest = stood[0];
            for (int i = 1; i < stood.length; i++) {
                stood[i - 1] = stood[i];
            }
            stood[stood.length - 1] = lowest;
            size--;
        }

        boolean takeInto(Forest forest) {
            if (size <= 0 || size > stood.length) {
                return false;
            }
            size--;
            forest.copyFrom(stood[size]);
            return true;
        }
    }

    /** The ways to one goal from every place, by a drum or in truth. */
    private static final class Ways {
        private final Row toEnter = new Row(MOST_PLACES);
        private final Row toGoal = new Row(MOST_PLACES);

        void learnByDrum(Land land, Forest forest, int drum, int goal) {
            for (int x = 0; x < land.places; x++) {
                toEnter.put(x, hoursToEnter(forest.takes(land, drum, x), forest.wet));
            }
            measure(land, goal);
        }

        void learnInTruth(Land land, int wet, int goal) {
            for (int x = 0; x < land.places; x++) {
                toEnter.put(x, hoursToEnter(land.ground.at(x), wet));
            }
            measure(land, goal);
        }

        /** Sweeps to and fro, as ways run both up and down the numbers; no way has more steps than there are places. */
        private void measure(Land land, int goal) {
            toGoal.fill(FAR_OFF);
            toGoal.put(goal, 0);
            boolean changed = true;
            for (int sweep = 0; sweep < MOST_PLACES && changed; sweep++) {
                changed = false;
                for (int i = 0; i < land.places; i++) {
                    int x = sweep % 2 == 0 ? land.places - 1 - i : i;
                    int hours = hoursOver(firstOf(land, x));
                    if (hours < toGoal.at(x)) {
                        toGoal.put(x, hours);
                        changed = true;
                    }
                }
            }
        }

        private int hoursOver(int next) {
            return next == NONE ? FAR_OFF : toEnter.at(next) + toGoal.at(next);
        }

        /** Of several the lowest, as the sides stand in that order; NONE if there is no way. */
        private int firstOf(Land land, int x) {
            int first = NONE;
            int fewest = FAR_OFF;
            for (int side = 0; side < SIDES; side++) {
                int next = land.beside.at(x * SIDES + side);
                int hours = next == NONE ? FAR_OFF : toEnter.at(next) + toGoal.at(next);
                if (hours < fewest) {
                    fewest = hours;
                    first = next;
                }
            }
            return first;
        }

        int hoursFrom(int x) {
            return toGoal.at(x) < FAR_OFF ? toGoal.at(x) : NONE;
        }

        /** NONE at the goal itself, too: whoever is there sets out for nowhere. */
        int firstFrom(Land land, int x) {
            return toGoal.at(x) == 0 ? NONE : firstOf(land, x);
        }
    }

    /** Reads a text into a land and a forest of its own, so that a faulty one harms nothing. */
    private static final class Reader {
        final Land land = new Land();
        final Forest forest = new Forest();
        private final Row numbers = new Row(3);

        int firstFault(Text text) {
            land.clear();
            forest.clear();
            int start = 0;
            for (int items = 0; items < MOST_LETTERS && start < text.length; items++) {
                int behind = readItem(text, start);
                if (behind <= start) {
                    return start;
                }
                start = behind;
            }
            return NONE;
        }

        /** Where the next item starts, or NOT_SO. */
        private int readItem(Text text, int start) {
            switch (text.letterAt(start)) {
                case 'r': return readRow(text, start + 1);
                case 'd': return readDrum(text, start + 1);
                case 'x': return readTold(text, start + 1);
                case 't': return readTraveller(text, start + 1);
                case 'w': return readWet(text, start + 1);
                default: return NOT_SO;
            }
        }

        private int readRow(Text text, int from) {
            int many = 0;
            while (many < MOST_IN_ROW && within(figureOf(text.letterAt(from + many)), OPEN, FORD)) {
                land.ground.put(land.places + many, figureOf(text.letterAt(from + many)));
                many++;
            }
            boolean fits = many > 0 && (land.rows == 0 || many == land.width);
            if (!fits || land.rows >= MOST_ROWS || text.letterAt(from + many) != ';') {
                return NOT_SO;
            }
            land.width = many;
            land.places += many;
            land.rows++;
            return from + many + 1;
        }

        private int readDrum(Text text, int from) {
            int behind = readNumbers(text, from, 1);
            int kind = numbers.at(0);
            if (behind == NOT_SO || kind > TOY || land.drums >= MOST_DRUMS) {
                return NOT_SO;
            }
            land.kinds.put(land.drums, kind);
            land.drums++;
            return behind;
        }

        private int readTold(Text text, int from) {
            int behind = readNumbers(text, from, 3);
            int d = numbers.at(0);
            int x = numbers.at(1);
            int v = numbers.at(2);
            if (behind == NOT_SO || !land.hasDrum(d) || !land.hasPlace(x) || v > FORD) {
                return NOT_SO;
            }
            forest.setTold(d, x, v);
            return behind;
        }

        private int readTraveller(Text text, int from) {
            int behind = readNumbers(text, from, 3);
            int x = numbers.at(0);
            int y = numbers.at(1);
            int d = numbers.at(2);
            if (behind == NOT_SO || !land.hasPlace(x) || !land.hasPlace(y) || !land.hasDrum(d)) {
                return NOT_SO;
            }
            if (land.travellers >= MOST_TRAVELLERS) {
                return NOT_SO;
            }
            forest.who(land.travellers).start(x, y, d);
            land.travellers++;
            return behind;
        }

        private int readWet(Text text, int from) {
            int behind = readNumbers(text, from, 1);
            if (behind == NOT_SO || numbers.at(0) > WETTEST) {
                return NOT_SO;
            }
            forest.wet = numbers.at(0);
            return behind;
        }

        /** Reads numbers parted by commas, with a semicolon behind the last: where they end, or NOT_SO. */
        private int readNumbers(Text text, int from, int many) {
            int at = from;
            for (int k = 0; k < many; k++) {
                int number = figureOf(text.letterAt(at));
                if (number == NOT_SO) {
                    return NOT_SO;
                }
                at++;
                int second = figureOf(text.letterAt(at));
                if (second != NOT_SO) {
                    number = number * 10 + second;
                    at++;
                }
                if (text.letterAt(at) != (k + 1 < many ? ',' : ';')) {
                    return NOT_SO;
                }
                at++;
                numbers.put(k, number);
            }
            return at;
        }
    }
}
