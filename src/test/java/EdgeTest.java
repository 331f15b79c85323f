import java.util.List;

/** The document's edges, sentence by sentence: next to each bound, the emptiest, the fullest, what is refused. */
public final class EdgeTest {
    private static final int BAD = -1, NO = -2, FULL = -3, NONE = -4;
    private static final int MIN = Integer.MIN_VALUE, MAX = Integer.MAX_VALUE;
    private static final int LAST_CALL = 512;

    /** Two hundred letters, six rows of six, four drums, four travellers: one will be LOST, one stays, one is THERE. */
    private static final String FULLEST = "r000000;r033330;r000000;r012000;r000000;r000003;d0;d1;d2;d3;"
            + "t0,12,0;t6,6,1;t34,35,3;t34,35,0;w2;"
            + "x0,1,1;x0,2,2;x0,4,3;x1,1,0;x1,5,2;x1,8,1;x2,3,3;x2,7,0;x2,9,2;x3,0,1;x3,2,3;x3,4,0;x0,8,0;x1,6,0;w1;w2;";

    /** What an object has gone through; it is made anew for every question, as all of its 512 calls may be needed. */
    private interface Past {
        DrumMaps make();
    }

    private static final Checks C = new Checks();

    public static void main(String[] args) {
        bounds("first", EdgeTest::first);
        bounds("least", EdgeTest::least);
        bounds("fullest", EdgeTest::fullest);
        bounds("faulty", EdgeTest::faulty);
        refusedAsThingsStand();
        firstOfSeveral();
        fullestText();
        rows();
        numbersOfItems();
        manyItems();
        layEndsWhatWas();
        entering();
        goingByWet();
        upToSixtyHours();
        waysBeyondSixtyHours();
        fastestOfSeveral();
        tuneOfSeveral();
        seenBehindThirtyHours();
        meetWhereLost();
        rainsOfBounds();
        yearsAreCallsOneByOne();
        heardUpToEight();
        undoneUpToEight();
        keptUpToTwo();
        lastCall();
        C.end();
    }

    private static void due(String what, long got, long want) {
        C.due(what, got, want);
    }

    private static DrumMaps laid(String text) {
        return Checks.laid(text);
    }

    // ---- how it may stand

    private static DrumMaps first() {
        return new DrumMaps();
    }

    private static DrumMaps least() {
        return laid("r0;d0;");
    }

    /** As full as it can be: text, places, drums, travellers, heard, undone, kept; one is on his way. */
    private static DrumMaps fullest() {
        DrumMaps x = laid(FULLEST);
        for (int i = 0; i < 8; i++) x.hear(i, i % 4);
        x.rain(1);
        x.keep();
        x.rain(2);
        x.pass(1);
        x.keep();
        x.retune(3, 34, 1);
        x.send(0, 14);
        x.give(0, 0);
        x.rain(3);
        x.pass(24);
        x.send(0, 0);
        x.pass(1);
        return x;
    }

    /** A text with a fault behind one that was laid; one LOST, one THERE. */
    private static DrumMaps faulty() {
        DrumMaps x = laid("r030;r000;d3;d1;d2;t0,2,0;t3,3,1;t5,1,1;w2;");
        Checks.write(x, "r0;");
        x.hear(1, 3);
        x.keep();
        x.pass(3);
        return x;
    }

    // ---- BAD: next to each bound on either side, for each number of each call

    private static void bounds(String when, Past past) {
        List<Integer> stood = Calls.all(past.make());
        for (String told : Calls.TOLD) {
            int[][] bounds = Calls.bounds(told, past.make());
            for (int i = 0; i < bounds.length; i++) beyondBounds(when, past, stood, told, bounds, i);
            for (int corner = 0; corner < 1 << bounds.length; corner++) {
                withinBounds(when, past, stood, told, bounds, corner);
            }
        }
        for (String name : Calls.WITHOUT_NUMBERS) refusedOrAnswered(when, past, stood, name);
    }

    private static void beyondBounds(String when, Past past, List<Integer> stood, String told, int[][] bounds, int i) {
        for (int beyond : new int[] {bounds[i][0] - 1, bounds[i][1] + 1, NO, FULL, NONE, MIN, MAX}) {
            for (int side = 0; side < 2; side++) {
                int[] numbers = corner(bounds, side == 0 ? 0 : -1);
                numbers[i] = beyond;
                DrumMaps x = past.make();
                String what = when + ": " + Calls.name(told) + java.util.Arrays.toString(numbers);
                due(what, Calls.ask(x, Calls.name(told), numbers), BAD);
                same(what, x, stood);
            }
        }
    }

    private static void withinBounds(String when, Past past, List<Integer> stood, String told, int[][] bounds, int corner) {
        int[] numbers = corner(bounds, corner);
        String name = Calls.name(told);
        boolean bad = (name.equals("meet") || name.equals("clash")) && numbers[0] == numbers[1];
        for (int[] bound : bounds) bad |= bound[0] > bound[1];
        DrumMaps x = past.make();
        String what = when + ": " + name + java.util.Arrays.toString(numbers);
        int got = Calls.ask(x, name, numbers);
        due(what + " is BAD", got == BAD ? 1 : 0, bad ? 1 : 0);
        if (bad || got == NO || got == FULL || !Calls.changes(name)) same(what, x, stood);
    }

    private static void refusedOrAnswered(String when, Past past, List<Integer> stood, String name) {
        DrumMaps x = past.make();
        int got = Calls.ask(x, name);
        due(when + ": " + name + "() is BAD", got == BAD ? 1 : 0, 0);
        if (got == NO || got == FULL || !Calls.changes(name)) same(when + ": " + name + "()", x, stood);
    }

    /** The lowest or the highest of each number, by the bits of the corner. */
    private static int[] corner(int[][] bounds, int corner) {
        int[] numbers = new int[bounds.length];
        for (int i = 0; i < bounds.length; i++) numbers[i] = bounds[i][corner >> i & 1];
        return numbers;
    }

    private static void same(String what, DrumMaps x, List<Integer> stood) {
        due("nothing changes by " + what, Calls.all(x).equals(stood) ? 1 : 0, 1);
    }

    // ---- NO, FULL, and which of several comes first

    private static void refused(String what, Past past, int answer, String name, int... numbers) {
        DrumMaps x = past.make();
        due(what, Calls.ask(x, name, numbers), answer);
        same(what, x, Calls.all(past.make()));
    }

    private static void refusedAsThingsStand() {
        refused("a letter beyond 200", EdgeTest::fullest, FULL, "write", 'r');
        refused("heard beyond eight", EdgeTest::fullest, FULL, "hear", 35, 3);
        refused("kept beyond two", EdgeTest::fullest, FULL, "keep");
        refused("a text with a fault", EdgeTest::faulty, NO, "lay");
        refused("an empty text", EdgeTest::first, NO, "lay");
        refused("nothing to undo", EdgeTest::first, NO, "undo");
        refused("nothing kept", EdgeTest::first, NO, "back");
        refused("nothing to undo in the least", EdgeTest::least, NO, "undo");
        refused("nothing kept in the least", EdgeTest::least, NO, "back");
        for (int t = 0; t < 2; t++) {
            String who = t == 0 ? " one who is LOST" : " one who is THERE";
            refused("give to" + who, EdgeTest::faulty, NO, "give", t, 2);
            refused("fastest of" + who, EdgeTest::faulty, NO, "fastest", t);
            refused("tune of" + who, EdgeTest::faulty, NO, "tune", t);
        }
        refused("send one who is LOST", EdgeTest::faulty, NO, "send", 0, 0);
        refused("send him to where he is", EdgeTest::faulty, NO, "send", 0, 2);
        due("one who is THERE can be sent", faulty().send(1, 0), 0);
        due("one who GOES can be given to", faulty().give(2, 0), 1);
    }

    private static void firstOfSeveral() {
        for (int letter : new int[] {31, 127, MIN, MAX}) refused("BAD, not FULL", EdgeTest::fullest, BAD, "write", letter);
        for (int x : new int[] {-1, 36}) refused("BAD, not FULL", EdgeTest::fullest, BAD, "hear", x, 0);
        for (int v : new int[] {-1, 4}) refused("BAD, not FULL", EdgeTest::fullest, BAD, "hear", 0, v);
        for (int t = 0; t < 2; t++) {
            for (int d : new int[] {-1, 3}) refused("BAD, not NO", EdgeTest::faulty, BAD, "give", t, d);
        }
        for (int y : new int[] {-1, 6}) refused("BAD, not NO", EdgeTest::faulty, BAD, "send", 0, y);
        DrumMaps x = faulty();
        due("NONE in truth: no way into the ford", x.truth(0, 1), NONE);
        due("NONE by an ANTELOPE", x.route(1, 0, 1, 0), NONE);
        due("NONE by a TOY, who is lost", x.led(0, 0, 1), NONE);
        for (int what : new int[] {-1, 2}) due("BAD, not NONE", x.route(1, 0, 1, what), BAD);
        for (int what : new int[] {-1, 2}) due("BAD, not NONE of alike places", x.route(1, 0, 0, what), BAD);
        due("BAD, not NONE", x.route(3, 0, 1, 0), BAD);
        due("BAD, not NONE", x.led(3, 0, 1), BAD);
        due("BAD, not NONE", x.led(0, 6, 1), BAD);
        due("BAD, not NONE", x.truth(6, 1), BAD);
        due("never together: NONE", x.meet(0, 1), NONE);
        due("alike: BAD, not 0 hours", x.meet(1, 1), BAD);
        due("no clash: NONE", x.clash(0, 1, 1), NONE);
        due("alike: BAD, not NONE", x.clash(1, 1, 1), BAD);
        due("BAD, not NONE", x.clash(0, 1, 2), BAD);
        due("LOST will not arrive: NONE", x.arrives(0), NONE);
        due("NO, not NONE", x.fastest(0), NO);
        due("NO, not NONE", x.tune(0), NO);
        due("THERE, none is sooner: NO, not NONE", x.tune(1), NO);
        due("who GOES and can not arrive: NONE", x.fastest(2), NONE);
        due("BAD, not NONE", x.traveller(1, 6), BAD);
        due("NONE: not on his way", x.traveller(1, 4), NONE);
    }

    // ---- 1: the text

    private static void fullestText() {
        DrumMaps x = new DrumMaps();
        due("letters of the fullest", FULLEST.length(), 200);
        for (int i = 0; i < 200; i++) due("letter " + i, x.write(FULLEST.charAt(i)), i + 1);
        due("one more", x.write(';'), FULL);
        due("and again", x.write(';'), FULL);
        due("no fault in 200 letters", x.fault(), NONE);
        due("laid", x.lay(), 36);
        due("laid anew", x.lay(), 36);
        due("the text stays", x.count(12), 200);
        due("wipe()", x.wipe(), 200);
        due("wiped", x.wipe(), 0);
        Checks.write(x, FULLEST.substring(0, 199));
        due("199 letters, the last item without its ;", x.fault(), 197);
        due("NO", x.lay(), NO);
        due("letter 200", x.write('2'), 200);
        due("still without its ;", x.fault(), 197);
        x.wipe();
        Checks.write(x, FULLEST.substring(0, 194) + "w02; w");
        due("a fault in the last letters", x.fault(), 198);
        x.wipe();
        Checks.write(x, FULLEST.substring(0, 194) + "w2;w1r");
        due("a fault behind", x.fault(), 197);
        x.wipe();
        Checks.write(x, FULLEST.substring(0, 187) + "w02;w02;w02;r");
        due("a fault of the last letter", x.fault(), 199);
        due("NO", x.lay(), NO);
    }

    private static void rows() {
        for (int width = 1; width <= 7; width++) {
            for (int many = 1; many <= 7; many++) {
                String row = "r" + "0123012".substring(0, width) + ";";
                DrumMaps x = new DrumMaps();
                Checks.write(x, row.repeat(many) + "d0;");
                boolean fits = width <= 6 && many <= 6;
                String what = many + " rows of " + width;
                due("fault of " + what, x.fault(), fits ? NONE : width > 6 ? 0 : 6 * (width + 2));
                due("lay() of " + what, x.lay(), fits ? width * many : NO);
                for (int p = 0; fits && p < width * many; p++) due("place " + p + " of " + what, x.place(p), p % width % 4);
                due("places of " + what, x.count(0), fits ? width * many : 20);
                due("width of " + what, x.count(1), fits ? width : 5);
            }
        }
        for (int first = 1; first <= 6; first++) {
            for (int second = 1; second <= 6; second++) {
                String text = "r" + "0".repeat(first) + ";r" + "1".repeat(second) + ";";
                faultIs(text, first == second ? NONE : first + 2);
                faultIs("d0;" + text, first == second ? NONE : first + 5);
            }
        }
        for (char c = ' '; c <= '~'; c++) faultIs("r0" + c + ";", "0123;".indexOf(c) < 0 ? 0 : c == ';' ? 3 : NONE);
    }

    private static void faultIs(String text, int want) {
        DrumMaps x = new DrumMaps();
        Checks.write(x, text);
        due("fault() of " + text, x.fault(), want);
    }

    private static void numbersOfItems() {
        for (String ahead : new String[] {"r0;d0;", "r012;r012;d0;d1;d2;", "r000000;".repeat(6) + "d0;d0;d0;d0;"}) {
            DrumMaps laid = laid(ahead);
            int places = laid.count(0);
            int drums = laid.count(2);
            for (int n = 0; n <= 99; n++) {
                int at = ahead.length();
                faultIs(ahead + "x" + n + ",0,0;", n < drums ? NONE : at);
                faultIs(ahead + "x0," + n + ",0;", n < places ? NONE : at);
                faultIs(ahead + "x0,0," + n + ";", n <= 3 ? NONE : at);
                faultIs(ahead + "t" + n + ",0,0;", n < places ? NONE : at);
                faultIs(ahead + "t0," + n + ",0;", n < places ? NONE : at);
                faultIs(ahead + "t0,0," + n + ";", n < drums ? NONE : at);
                faultIs(ahead + "w" + n + ";", n <= 3 ? NONE : at);
                faultIs(ahead + "d" + n + ";", n <= 3 && drums < 4 ? NONE : at);
            }
        }
        for (char c = ' '; c <= '~'; c++) faultIs(c + "0;", "rdw".indexOf(c) < 0 ? 0 : NONE);
        for (char c = ' '; c <= '~'; c++) faultIs("r0;d0;t0" + c + "0,0;", c == ',' ? NONE : 6);
        for (char c = ' '; c <= '~'; c++) faultIs("r0;d0;x0,0,0" + c, c == ';' ? NONE : 6);
    }

    private static void manyItems() {
        for (int many = 1; many <= 5; many++) {
            faultIs("d0;".repeat(many), many <= 4 ? NONE : 12);
            faultIs("r0;d0;" + "t0,0,0;".repeat(many), many <= 4 ? NONE : 6 + 28);
        }
        faultIs("w0;".repeat(66), NONE);
        faultIs("r0;d0;" + "x0,0,3;".repeat(27), NONE);
        due("of several W the last one", laid("w1;r0;w3;d0;w2;").count(4), 2);
        due("of several W the last one, 0, too", laid("w3;r0;d0;w0;").count(4), 0);
        due("told several times: the last one", laid("r0;d0;x0,0,3;x0,0,1;x0,0,2;").drum(0, 0, 0), 2);
        due("told what it is again", laid("r0;d0;x0,0,3;x0,0,0;").drum(0, 0, 0), 0);
        DrumMaps x = laid("r0;d0;r0;d1;x0,1,2;r3;x1,2,0;t2,0,1;d2;r0;");
        due("rows, drums and others in turn", x.count(0), 4);
        due("told of the second row", x.drum(0, 1, 0), 2);
        due("told of the third row", x.drum(1, 2, 0), 0);
        due("a traveller in the third row", x.traveller(0, 0), 2);
    }

    private static void layEndsWhatWas() {
        DrumMaps x = fullest();
        due("laid anew", x.lay(), 36);
        int[] want = {36, 6, 4, 4, 2, 0, 1, 0, 27, 0, 0, 0, 200};
        for (int i = 0; i < want.length; i++) due("laid anew: count(" + i + ")", x.count(i), want[i]);
        due("nothing can be undone", x.undo(), NO);
        due("nothing is kept", x.back(), NO);
        due("nothing was heard", x.forget(), 0);
    }

    // ---- 2: hours

    private static int hoursToEnter(int ground, int wet) {
        if (ground == 3) return wet >= 2 ? NONE : 1;
        return ground + 1 + (wet >= 2 ? 1 : 0);
    }

    /** Each ground, told as each, by each kind of drum, at each wet. */
    private static void entering() {
        for (int ground = 0; ground <= 3; ground++) {
            DrumMaps x = laid("r0" + ground + ";d0;d1;d2;d3;");
            for (int wet = 0; wet <= 3; wet++) {
                x.rain(wet);
                String what = "ground " + ground + ", wet " + wet;
                due("truth into " + what, x.truth(0, 1), hoursToEnter(ground, wet));
                due("truth out of " + what, x.truth(1, 0), wet >= 2 ? 2 : 1);
                due("truth where one is, " + what, x.truth(1, 1), 0);
                for (int d = 0; d < 4; d++) {
                    int taken = d > 0 && d == ground ? 0 : ground;
                    due("taken by " + d + ", " + what, x.drum(d, 1, 1), taken);
                    due("route by " + d + ", " + what, x.route(d, 0, 1, 0), hoursToEnter(taken, wet));
                    due("first by " + d + ", " + what, x.route(d, 0, 1, 1), hoursToEnter(taken, wet) < 0 ? NONE : 1);
                    due("out by " + d + ", " + what, x.route(d, 1, 0, 0), wet >= 2 ? 2 : 1);
                    due("alike by " + d + ", " + what, x.route(d, 1, 1, 0), 0);
                    due("alike, first by " + d + ", " + what, x.route(d, 1, 1, 1), NONE);
                }
            }
        }
    }

    /** One goes by what is told and takes what it takes: each ground told as each, at each wet. */
    private static void goingByWet() {
        for (int ground = 0; ground <= 3; ground++) {
            for (int told = 0; told <= 3; told++) {
                for (int wet = 0; wet <= 3; wet++) {
                    DrumMaps x = laid("r0" + ground + ";d0;x0,1," + told + ";t0,1,0;w" + wet + ";");
                    String what = "ground " + ground + ", told " + told + ", wet " + wet;
                    boolean stays = hoursToEnter(told, wet) == NONE;
                    int takes = hoursToEnter(ground, wet);
                    due("arrives: " + what, x.arrives(0), stays ? NONE : takes);
                    due("led: " + what, x.led(0, 0, 1), stays ? NONE : takes);
                    due("loses: " + what, x.loses(0), stays || takes != NONE ? NONE : 1);
                    x.pass(1);
                    boolean on = !stays && takes > 1;
                    due("state: " + what, x.traveller(0, 3), stays || on ? 0 : takes == NONE ? 2 : 1);
                    due("place: " + what, x.traveller(0, 0), !stays && takes == 1 ? 1 : 0);
                    due("on his way for: " + what, x.traveller(0, 4), on ? 1 : NONE);
                    due("still to go: " + what, x.traveller(0, 5), on ? takes - 1 : 0);
                    x.pass(24);
                    due("state later: " + what, x.traveller(0, 3), stays ? 0 : takes == NONE ? 2 : 1);
                }
            }
        }
    }

    // ---- 3: what comes, up to 60 hours

    /** Hills in the rain, of which the first few are woods: 64 hours less these from place 0 to place 26. */
    private static String road(int woods) {
        return "r2" + "1".repeat(woods) + "2".repeat(5 - woods) + ";r333332;r222222;r233333;r222222;d0;w2;";
    }

    private static void upToSixtyHours() {
        for (int woods = 2; woods <= 5; woods++) {
            int hours = 64 - woods;
            boolean within = hours <= 60;
            String what = hours + " hours: ";
            DrumMaps x = laid(road(woods) + "t0,26,0;t26,26,0;");
            due(what + "truth", x.truth(0, 26), hours);
            due(what + "route", x.route(0, 0, 26, 0), hours);
            due(what + "arrives", x.arrives(0), within ? hours : NONE);
            due(what + "led", x.led(0, 0, 26), within ? hours : NONE);
            due(what + "fastest", x.fastest(0), within ? 0 : NONE);
            due(what + "right", x.right(0, 26), within ? 1 : 0);
            due(what + "meet", x.meet(0, 1), within ? hours : NONE);
            due(what + "meet, either way", x.meet(1, 0), within ? hours : NONE);
            due(what + "tune, told as it is", x.tune(0), NONE);
            due(what + "tune", laid(road(woods) + "x0,3,3;t0,26,0;").tune(0), within ? 3 : NONE);
        }
        for (int woods = 0; woods <= 3; woods++) {
            String ford = road(woods).replace("r222222;d0;", "r223222;d0;x0,26,0;");
            due(woods + " woods: loses", laid(ford + "t0,26,0;").loses(0), woods == 0 ? NONE : 61 - woods);
        }
        DrumMaps x = laid("r00;d0;t0,0,0;t0,1,0;");
        due("arrives behind 0", x.arrives(0), 0);
        due("led behind 0", x.led(0, 1, 1), 0);
        due("met behind 0", x.meet(0, 1), 0);
        due("arrives behind 1", x.arrives(1), 1);
    }

    private static void waysBeyondSixtyHours() {
        DrumMaps x = laid(road(0) + "t0,29,0;");
        due("ROUTE knows no bound of hours", x.route(0, 0, 29, 0), 76);
        due("its first place", x.route(0, 0, 29, 1), 1);
        due("nor does TRUTH", x.truth(0, 29), 76);
        due("LED does", x.led(0, 0, 29), NONE);
        due("hours go by all the same", x.pass(24) + x.pass(24) + x.pass(24), 24 + 48 + 72);
        due("on his way to the last one", x.traveller(0, 0), 28);
        due("now he arrives", x.arrives(0), 4);
        due("three hours more", x.pass(3), 75);
        due("not yet", x.count(6), 0);
        due("one more", x.pass(1), 76);
        due("THERE", x.count(6), 1);
    }

    private static void fastestOfSeveral() {
        due("the lowest, of which others are slower", laid("r0210;r0000;d0;d2;t0,3,1;").fastest(0), 0);
        due("between slower ones", laid("r0210;r0000;d2;d0;d2;t0,3,0;").fastest(0), 1);
        due("the last", laid("r0210;r0000;d2;d2;d2;d0;t0,3,0;").fastest(0), 3);
        due("of several the lowest", laid("r0210;r0000;d2;d0;d1;d3;t0,3,0;").fastest(0), 1);
        due("by the others one is lost or stays", laid("r0300;r0000;d3;d0;d0;d0;x1,4,3;x2,0,0;t0,3,0;w2;").fastest(0), 2);
        DrumMaps x = laid("r01220;r00000;d2;d0;t0,4,0;");
        x.pass(1);
        due("on his way", x.traveller(0, 4), 1);
        due("he would go round from there", x.fastest(0), 1);
        due("by his it takes longer", x.arrives(0), 8);
        x.give(0, 1);
        due("by the other", x.arrives(0), 6);
    }

    private static void tuneOfSeveral() {
        due("what lies off the way does not count", laid("r0210;r0000;r0000;d0;x0,1,0;x0,11,1;t0,3,0;").tune(0), 1);
        due("nor does a lower one", laid("r0000;r0210;r0000;d0;x0,0,1;x0,5,0;t4,7,0;").tune(0), 5);
        due("two would be needed", laid("r0210;r0000;d0;x0,1,0;x0,4,1;t0,3,0;").tune(0), NONE);
        due("told worse than it is", laid("r0210;r0000;d0;x0,5,2;t0,3,0;").tune(0), 5);
        DrumMaps x = laid("r0210;r0000;d0;x0,1,0;t0,3,0;");
        due("as it is", x.arrives(0), 6);
        x.retune(0, x.tune(0), 2);
        due("sooner, when it is done", x.arrives(0), 5);
        due("none then", x.tune(0), NONE);
    }

    private static void seenBehindThirtyHours() {
        DrumMaps x = laid(road(2) + "t0,26,0;");
        due("in place 16 behind 30 hours", x.seen(0, 16, 30), 1);
        due("not in 17 any more", x.seen(0, 17, 30), 0);
        due("behind 29 from 17", x.seen(0, 17, 29), 1);
        due("behind 29 not in 16", x.seen(0, 16, 29), 0);
        due("31", x.seen(0, 16, 31), BAD);
        due("behind 0", x.seen(0, 0, 0), 1);
        due("behind 1 from 0", x.seen(0, 0, 1), 1);
        DrumMaps y = faulty();
        due("LOST, by any drum where he set out from", y.seen(0, 0, 30), 7);
        due("LOST, elsewhere by none", y.seen(0, 2, 30), 0);
        due("THERE, by any drum", y.seen(1, 3, 30), 7);
    }

    private static void meetWhereLost() {
        DrumMaps x = laid("r030;r000;d3;d0;t0,1,0;t0,1,0;t5,0,1;t2,1,0;w2;");
        x.pass(1);
        due("LOST both, from one place", x.meet(0, 1), 0);
        due("LOST both, from two", x.meet(0, 3), NONE);
        due("one comes by", x.meet(2, 0), 5);
        due("on his way he is not where he set out from", laid("r020;d0;t0,1,0;t0,0,0;").meet(0, 1), 0);
        DrumMaps y = laid("r020;d0;t0,1,0;t0,0,0;");
        y.pass(1);
        due("on his way", y.meet(0, 1), NONE);
        y.send(0, 0);
        due("he comes back", y.meet(0, 1), 3);
    }

    // ---- 4: what was heard, rain, years, kept

    private static void rainsOfBounds() {
        DrumMaps x = laid("r000000;r000000;d0;t0,5,0;t0,0,0;t0,8,0;");
        for (int tenths = 0; tenths <= 10; tenths++) {
            due("behind no hour", x.rains(0, 0, tenths, 0), 0);
            due("in lowest terms", x.rains(0, 0, tenths, 1), 1);
            due("THERE behind no hour", x.rains(1, 0, tenths, 0), 1);
            due("surely", x.rains(1, 8, tenths, 0) * 10 + x.rains(1, 8, tenths, 1), 11);
        }
        due("five hours, if it never rains", x.rains(0, 5, 0, 0), 1);
        due("not in four", x.rains(0, 4, 0, 0), 0);
        due("ten hours, if it always rains", x.rains(0, 8, 10, 0), 0);
        due("never in the first of eight by one of ten", x.rains(0, 5, 1, 0), 59049);
        due("of", x.rains(0, 5, 1, 1), 100000);
        x.rain(2);
        due("as it is: two hours each", x.rains(0, 8, 0, 0), 0);
        x.rain(1);
        due("wet by 1: one hour each", x.rains(0, 5, 0, 0), 1);
        DrumMaps y = laid("r03;d3;t0,1,0;");
        due("at most one of ten in the first hour", y.rains(0, 8, 1, 0) * 100 + y.rains(0, 8, 1, 1), 910);
        due("it rains surely: LOST", y.rains(0, 8, 10, 0), 0);
        due("surely not", y.rains(0, 8, 0, 0), 1);
    }

    private static void yearsAreCallsOneByOne() {
        String[] forests = {"r012301;r000200;r030010;d0;d1;d2;d3;x0,7,0;x1,3,2;t0,17,0;t5,12,1;t17,0,2;t6,11,3;",
            "r0;d3;", "r000000;r013210;r000000;r333000;r000000;r012300;d3;t0,35,0;", "r030;r010;r030;d3;d0;t0,2,0;t8,0,1;t4,4,0;w2;"};
        for (String forest : forests) {
            for (int z = 0; z <= 9999; z += z < 40 || z >= 9960 ? 1 : 331) {
                for (int n : new int[] {1, 2, 59, 60}) yearIsCalls(forest, z, n);
            }
        }
    }

    private static void yearIsCalls(String forest, int z, int n) {
        DrumMaps x = laid(forest);
        int there = x.year(z, n, 0);
        int lost = x.year(z, n, 1);
        for (long k = 0; k < n; k++) {
            long number = 7919L * z + 6151L * k + 1;
            int draw = (int) (number * number % 65521);
            int travellers = x.count(3);
            if (draw % 8 == 0) x.rain(draw / 8 % 4);
            if (draw % 8 == 1) x.retune(draw / 8 % x.count(2), draw / 32 % x.count(0), draw / 2048 % 4);
            if (draw % 8 == 2 && travellers > 0) x.send(draw / 8 % travellers, draw / 32 % x.count(0));
            x.pass(1);
        }
        due("year(" + z + ", " + n + ", 0) in " + forest, there, x.count(6));
        due("year(" + z + ", " + n + ", 1) in " + forest, lost, x.count(7));
    }

    private static void heardUpToEight() {
        DrumMaps x = laid("r0123;d0;d0;x1,3,0;");
        for (int i = 1; i <= 8; i++) due("heard " + i, x.hear(i % 3, i % 3), i);
        due("so by both", x.which(), 3);
        due("one more", x.hear(3, 3), FULL);
        due("it was not heard", x.which(), 3);
        due("forget()", x.forget(), 8);
        for (int i = 1; i <= 7; i++) due("heard " + i, x.hear(0, 0), i);
        due("the eighth", x.hear(3, 3), 8);
        due("it counts, too", x.which(), 1);
        due("one more", x.hear(0, 1), FULL);
        due("it was not heard", x.which(), 1);
        due("forget()", x.forget(), 8);
        due("nothing heard: all", x.which(), 3);
    }

    private static void undoneUpToEight() {
        for (int many = 1; many <= 10; many++) {
            DrumMaps x = laid("r000000;d0;t0,5,0;");
            for (int i = 0; i < many; i++) x.pass(24);
            int can = Math.min(many, 8);
            due(many + " changes", x.count(10), can);
            for (int left = can - 1; left >= 0; left--) due("one of " + many + " undone", x.undo(), left);
            due(many + " changes, all undone that can be", x.undo(), NO);
            due("hours behind that", x.count(5), (many - can) * 24);
        }
        DrumMaps x = new DrumMaps();
        x.rain(1);
        due("what alters nothing can be undone, too", x.undo(), 0);
        x.send(1, 4);
        due("sent to where he is", x.traveller(1, 3), 1);
        due("undone", x.undo(), 0);
        due("he GOES again", x.traveller(1, 3), 0);
        x.pass(1);
        x.undo();
        x.pass(2);
        due("undone and gone anew", x.count(10), 1);
        due("two hours", x.count(5), 2);
    }

    private static void keptUpToTwo() {
        DrumMaps x = new DrumMaps();
        due("back() ahead of any", x.back(), NO);
        due("keep()", x.keep(), 1);
        x.pass(1);
        due("keep()", x.keep(), 2);
        x.pass(1);
        due("a third", x.keep(), FULL);
        due("two hours", x.count(5), 2);
        x.hear(3, 3);
        x.write('r');
        due("back()", x.back(), 1);
        due("one hour", x.count(5), 1);
        due("heard stays", x.count(9), 1);
        due("the text stays", x.count(12), 1);
        due("nothing can be undone", x.undo(), NO);
        due("keep() again", x.keep(), 2);
        due("back() again", x.back(), 1);
        due("one hour", x.count(5), 1);
        due("back() to the first", x.back(), 0);
        due("no hour", x.count(5), 0);
        due("back() beyond", x.back(), NO);
        x.pass(1);
        due("what comes behind can be undone", x.undo(), 0);
    }

    /** An object is used for 512 calls: the last one holds as the first one does. */
    private static void lastCall() {
        DrumMaps hours = new DrumMaps();
        for (int call = 1; call <= LAST_CALL; call++) due("call " + call, hours.pass(24), call * 24);
        DrumMaps letters = new DrumMaps();
        for (int call = 1; call <= LAST_CALL; call++) due("call " + call, letters.write('~'), call <= 200 ? call : FULL);
        DrumMaps years = new DrumMaps();
        for (int call = 1; call <= LAST_CALL; call++) due("call " + call, years.year(5, 60, 0), 2);
        DrumMaps rain = new DrumMaps();
        for (int call = 1; call <= LAST_CALL; call++) due("call " + call, rain.rain(call % 4), call == 1 ? 1 : (call - 1) % 4);
        for (int ask = 0; ask <= 12; ask++) {
            DrumMaps x = new DrumMaps();
            for (int call = 1; call < LAST_CALL; call++) x.retune(call % 4, call % 20, 3);
            int[] want = {20, 5, 4, 4, 1, 0, 0, 0, 2, 0, 8, 0, 0};
            due("call 512: count(" + ask + ")", x.count(ask), want[ask]);
        }
    }
}
