/** Promise by promise, with answers worked out by hand from the document. */
public final class PromiseTest {
    private static final int BAD = -1, NO = -2, FULL = -3, NONE = -4;
    private static final int MIN = Integer.MIN_VALUE, MAX = Integer.MAX_VALUE;

    /** One road of hills in the rain, the rest fords: four hours a place, sixty to place 25. */
    private static final String LONG_ROAD = "r222222;r333332;r222222;r233333;r222222;d0;w2;";
    /** Hill and wood on top (truth: six hours), five hours below; an OLD drum and a GOAT. */
    private static final String HILL_ROAD = "r0210;r0000;d2;d0;d0;";

    private static final Checks C = new Checks();

    public static void main(String[] args) {
        newObject();
        writing();
        wiping();
        faults();
        faultsOfNumbers();
        laying();
        places();
        drums();
        kinds();
        travellers();
        routes();
        routesInRain();
        truths();
        passing();
        passingLost();
        raining();
        retuning();
        giving();
        sending();
        undoing();
        arriving();
        losing();
        leading();
        fastestDrum();
        tuning();
        meeting();
        clashing();
        leadingRight();
        hearing();
        forgetting();
        whichDrum();
        seeing();
        rainByChance();
        years();
        yearsRetuneAndSend();
        keeping();
        goingBack();
        counting();
        C.end();
    }

    private static void due(String what, long got, long want) {
        C.due(what, got, want);
    }

    private static DrumMaps laid(String text) {
        return Checks.laid(text);
    }

    /** All that can be asked of how it stands, in one number, so that "nothing changes" can be held. */
    private static long standing(DrumMaps x) {
        long sum = 17;
        for (int i = 0; i <= 12; i++) sum = sum * 31 + x.count(i);
        for (int p = 0; p < x.count(0); p++) {
            sum = sum * 31 + x.place(p);
            for (int d = 0; d < x.count(2); d++) sum = sum * 31 + x.drum(d, p, 0);
        }
        for (int d = 0; d < x.count(2); d++) sum = sum * 31 + x.kind(d);
        for (int t = 0; t < x.count(3); t++) {
            for (int i = 0; i <= 5; i++) sum = sum * 31 + x.traveller(t, i);
        }
        return sum * 31 + x.which();
    }

    private static void counts(String when, DrumMaps x, int... due) {
        for (int i = 0; i < due.length; i++) due(when + ": count(" + i + ")", x.count(i), due[i]);
    }

    private static void man(String when, DrumMaps x, int t, int... due) {
        for (int i = 0; i < due.length; i++) due(when + ": traveller(" + t + ", " + i + ")", x.traveller(t, i), due[i]);
    }

    private static void newObject() {
        DrumMaps x = new DrumMaps();
        counts("new", x, 20, 5, 4, 4, 1, 0, 0, 0, 15, 0, 0, 0, 0);
        String land = "00123" + "01110" + "32010" + "00130";
        for (int p = 0; p < 20; p++) due("new: place(" + p + ")", x.place(p), land.charAt(p) - '0');
        int[][] told = {{0, 7, 0}, {0, 13, 3}, {1, 1, 2}, {2, 11, 0}, {3, 18, 0}};
        for (int d = 0; d < 4; d++) {
            due("new: kind(" + d + ")", x.kind(d), d);
            for (int p = 0; p < 20; p++) {
                int want = land.charAt(p) - '0';
                for (int[] one : told) want = one[0] == d && one[1] == p ? one[2] : want;
                due("new: drum(" + d + ", " + p + ", 0)", x.drum(d, p, 0), want);
            }
        }
        man("new", x, 0, 0, 19, 0, 0, NONE, 0);
        man("new", x, 1, 4, 15, 1, 0, NONE, 0);
        man("new", x, 2, 15, 4, 2, 0, NONE, 0);
        man("new", x, 3, 10, 9, 3, 0, NONE, 0);
        due("new: an empty text can not be laid", x.lay(), NO);
        due("new: no fault", x.fault(), NONE);
    }

    private static void writing() {
        DrumMaps x = new DrumMaps();
        for (int bad : new int[] {31, 127, 0, -1, 10, 255, MIN, MAX}) due("write(" + bad + ")", x.write(bad), BAD);
        due("nothing written", x.count(12), 0);
        due("write(32)", x.write(32), 1);
        due("write(126)", x.write(126), 2);
        for (int i = 3; i <= 200; i++) due("letter " + i, x.write('r'), i);
        due("letter 201", x.write('r'), FULL);
        due("BAD goes ahead of FULL", x.write(31), BAD);
        due("as long as before", x.count(12), 200);
        DrumMaps y = laid("r01;d0;");
        Checks.write(y, "r2;");
        due("behind what stands", y.count(12), 10);
        due("so its fault is there", y.fault(), 7);
    }

    private static void wiping() {
        DrumMaps x = new DrumMaps();
        due("wipe() of nothing", x.wipe(), 0);
        Checks.write(x, "r0;d9");
        due("wipe()", x.wipe(), 5);
        due("behind wipe()", x.count(12), 0);
        due("fault() behind wipe()", x.fault(), NONE);
        due("write() behind wipe()", x.write('r'), 1);
        due("fault() of it", x.fault(), 0);
        due("wipe() leaves the forest", x.count(0), 20);
    }

    private static void fault(String text, int due) {
        DrumMaps x = new DrumMaps();
        Checks.write(x, text);
        due("fault() of " + text, x.fault(), due);
        due("and again", x.fault(), due);
    }

    private static void faults() {
        fault("", NONE);
        fault("r0123;d0;d1;d2;d3;w3;", NONE);
        fault("r0;r1;r2;r3;r0;r1;", NONE);
        fault("r0;r1;r2;r3;r0;r1;r2;", 18);
        fault("r012301;", NONE);
        fault("r0123012;", 0);
        fault("r;", 0);
        fault("r4;", 0);
        fault("r04;", 0);
        fault("r0,1;", 0);
        fault("r01;r0;", 4);
        fault("r01;r012;", 4);
        fault("d0;d1;d2;d3;", NONE);
        fault("d0;d1;d2;d3;d0;", 12);
        fault("d3;d4;", 3);
        fault("d;", 0);
        fault("w3;w0;w1;w2;w3;w0;", NONE);
        fault("w4;", 0);
        fault("w;", 0);
        fault("r0", 0);
        fault("r0;d", 3);
        fault("r0;d0", 3);
        fault(";", 0);
        fault("r0;;", 3);
        fault(" r0;", 0);
        fault("r0; d0;", 3);
        fault("r 0;", 0);
        fault("R0;", 0);
        fault("q0;", 0);
        fault("0;", 0);
        fault("d0;d9;r9;", 3);
        fault("d0;r00;x0,1,3;r11;x0,3,0;d1;x1,2,2;t3,0,1;", NONE);
    }

    private static void faultsOfNumbers() {
        String ahead = "r0000;r0000;r0000;d0;d0;";
        int at = ahead.length();
        for (String good : new String[] {"x0,0,0;", "x1,11,3;", "x01,03,03;", "x1,9,0;x1,9,0;", "t0,0,0;", "t11,0,1;",
            "t0,11,0;", "t00,09,01;", "t5,5,0;t5,5,0;t5,5,0;t5,5,0;", "w03;", "d03;", "d00;"}) {
            fault(ahead + good, NONE);
        }
        for (String bad : new String[] {"x2,0,0;", "x0,12,0;", "x0,0,4;", "x0,0,10;", "x0,0;", "x0,0,0,0;", "x0,,0;", "x,0,0;",
            "x0,0,;", "x0,0,0", "x0,0,0,", "x0;0;0;", "x000,0,0;", "x0,000,0;", "x0,0,000;", "x-1,0,0;", "x0.0.0;", "x00;",
            "t12,0,0;", "t0,12,0;", "t0,0,2;", "t0,0;", "t0,0,0,0;", "t0,000,0;", "t000,0,0;", "t0,0,000;", "t0,0,", "t;",
            "w003;", "w10;", "w1,;", "w1,1;", "d003;", "d10;", "d0,0;", "d 0;", "t99,0,0;", "x99,0,0;"}) {
            fault(ahead + bad, at);
        }
        fault(ahead + "t5,5,0;t5,5,0;t5,5,0;t5,5,0;t5,5,0;", at + 28);
        fault("x0,0,0;r0;d0;", 0);
        fault("r0;x0,0,0;d0;", 3);
        fault("d0;x0,0,0;r0;", 3);
        fault("d0;t0,0,0;r0;", 3);
        fault("r0;t0,0,0;d0;", 3);
        fault("r0;d0;x0,1,0;r0;", 6);
    }

    private static void laying() {
        for (String no : new String[] {"", "r0;", "d0;", "w2;", "r0;d0;w4;", "r0;d0", "r0;d0;t0,1,0;"}) {
            DrumMaps x = new DrumMaps();
            x.hear(0, 0);
            x.keep();
            x.pass(1);
            Checks.write(x, no);
            long stood = standing(x);
            due("lay() of " + no, x.lay(), NO);
            due("nothing changes by lay() of " + no, standing(x), stood);
        }
        DrumMaps x = new DrumMaps();
        x.hear(0, 0);
        x.keep();
        x.pass(5);
        x.rain(3);
        String text = "w3;r012;r333;d2;d1;x1,0,3;x1,0,2;t0,5,1;t4,4,0;w1;";
        Checks.write(x, text);
        due("lay()", x.lay(), 6);
        counts("laid", x, 6, 3, 2, 2, 1, 0, 1, 0, 5, 0, 0, 0, text.length());
        due("the last one of both", x.drum(1, 0, 0), 2);
        due("the other drum", x.drum(0, 0, 0), 0);
        due("second row", x.place(3), 3);
        man("laid", x, 0, 0, 5, 1, 0, NONE, 0);
        man("laid", x, 1, 4, 4, 0, 1, NONE, 0);
        due("kind(0)", x.kind(0), 2);
        due("kind(1)", x.kind(1), 1);
        x.pass(2);
        x.retune(0, 0, 3);
        due("lay() anew", x.lay(), 6);
        counts("laid anew", x, 6, 3, 2, 2, 1, 0, 1, 0, 5, 0, 0, 0, text.length());
        due("what was retuned is gone", x.drum(0, 0, 0), 0);
        x.wipe();
        Checks.write(x, "d0;r3;");
        due("lay() of the least", x.lay(), 1);
        counts("the least", x, 1, 1, 1, 0, 0, 0, 0, 0, 1, 0, 0, 0, 6);
        due("told no more", x.drum(0, 0, 0), 3);
        due("no traveller", x.traveller(0, 0), BAD);
        x.wipe();
        Checks.write(x, "r000000;r000000;r000000;r000000;r000000;r000012;d0;d0;d0;d0;x0,35,3;x3,35,0;t0,35,3;");
        due("lay() of the most", x.lay(), 36);
        counts("the most", x, 36, 6, 4, 1, 0, 0, 0, 0, 35, 0, 0);
        due("the last place", x.place(35), 2);
        due("told by the first drum", x.drum(0, 35, 0), 3);
        due("not by the next one", x.drum(1, 0, 0), 0);
        due("told by the last drum", x.drum(3, 35, 0), 0);
        due("over all of it", x.arrives(0), 12);
    }

    private static void places() {
        DrumMaps x = laid("r012;r321;d0;x0,0,3;");
        int[] land = {0, 1, 2, 3, 2, 1};
        for (int p = 0; p < 6; p++) due("place(" + p + ")", x.place(p), land[p]);
        x.retune(0, 1, 3);
        due("place() is what it is, whatever is told", x.place(1), 1);
        for (int bad : new int[] {-1, 6, 36, MIN, MAX}) due("place(" + bad + ")", x.place(bad), BAD);
    }

    private static void drums() {
        DrumMaps x = laid("r0123;r0000;d0;d1;d2;d3;x0,4,3;x1,5,1;x2,6,2;x3,7,3;");
        int[][] takes = {{0, 1, 2, 3}, {0, 0, 2, 3}, {0, 1, 0, 3}, {0, 1, 2, 0}};
        int[][] sounds = {{9, 6, 4, 0}, {8, 5, 3, 0}, {7, 4, 2, 0}, {6, 3, 1, 0}};
        for (int w = 0; w < 4; w++) {
            x.rain(w);
            for (int d = 0; d < 4; d++) {
                for (int p = 0; p < 4; p++) {
                    due("tells", x.drum(d, p, 0), p);
                    due("takes " + d + " " + p, x.drum(d, p, 1), takes[d][p]);
                    due("sounds " + d + " " + p + " when wet by " + w, x.drum(d, p, 2), sounds[w][p]);
                }
            }
        }
        int[] otherwise = {3, 1, 2, 3};
        for (int d = 0; d < 4; d++) {
            due("told otherwise", x.drum(d, 4 + d, 0), otherwise[d]);
            due("taken as told", x.drum(d, 4 + d, 1), d == 0 ? 3 : 0);
            due("sounds as told", x.drum(d, 4 + d, 2), sounds[3][otherwise[d]]);
        }
        for (int bad : new int[] {-1, 4, MIN, MAX}) due("drum(" + bad + ", 0, 0)", x.drum(bad, 0, 0), BAD);
        for (int bad : new int[] {-1, 8, MIN, MAX}) due("drum(0, " + bad + ", 0)", x.drum(0, bad, 0), BAD);
        for (int bad : new int[] {-1, 3, MIN, MAX}) due("drum(0, 0, " + bad + ")", x.drum(0, 0, bad), BAD);
    }

    private static void kinds() {
        DrumMaps x = laid("r0;d3;d0;d2;");
        due("kind(0)", x.kind(0), 3);
        due("kind(1)", x.kind(1), 0);
        due("kind(2)", x.kind(2), 2);
        for (int bad : new int[] {-1, 3, 4, MIN, MAX}) due("kind(" + bad + ")", x.kind(bad), BAD);
    }

    private static void travellers() {
        DrumMaps x = laid("r020;d0;d3;t0,2,1;t2,2,0;w1;");
        man("at first", x, 0, 0, 2, 1, 0, NONE, 0);
        man("at first", x, 1, 2, 2, 0, 1, NONE, 0);
        x.pass(1);
        man("on his way", x, 0, 0, 2, 1, 0, 1, 2);
        x.pass(1);
        man("on his way", x, 0, 0, 2, 1, 0, 1, 1);
        x.pass(1);
        man("in between", x, 0, 1, 2, 1, 0, NONE, 0);
        x.pass(1);
        man("there", x, 0, 2, 2, 1, 1, NONE, 0);
        for (int bad : new int[] {-1, 2, 4, MIN, MAX}) due("traveller(" + bad + ", 0)", x.traveller(bad, 0), BAD);
        for (int bad : new int[] {-1, 6, MIN, MAX}) due("traveller(0, " + bad + ")", x.traveller(0, bad), BAD);
    }

    private static void route(DrumMaps x, int d, int from, int to, int hours, int first) {
        String what = "route(" + d + ", " + from + ", " + to + ", ";
        due(what + "0)", x.route(d, from, to, 0), hours);
        due(what + "1)", x.route(d, from, to, 1), first);
    }

    private static void routes() {
        DrumMaps x = laid("r0100;r0200;r0000;d0;d1;d2;d3;");
        route(x, 0, 0, 2, 3, 1);
        route(x, 1, 0, 2, 2, 1);
        route(x, 0, 4, 6, 4, 5);
        route(x, 2, 4, 6, 2, 5);
        route(x, 1, 4, 6, 4, 0);
        route(x, 0, 0, 0, 0, NONE);
        route(x, 0, 5, 5, 0, NONE);
        route(x, 0, 6, 5, 3, 5);
        route(x, 0, 11, 0, 5, 10);
        x.retune(0, 8, 3);
        route(x, 0, 4, 6, 4, 5);
        x.retune(0, 5, 3);
        route(x, 0, 4, 6, 2, 5);
        DrumMaps y = laid("r000;r000;r000;d0;");
        route(y, 0, 0, 8, 4, 1);
        route(y, 0, 8, 0, 4, 5);
        route(y, 0, 4, 8, 2, 5);
        route(y, 0, 2, 3, 3, 1);
        route(y, 0, 6, 1, 3, 3);
        for (int bad : new int[] {-1, 1, 4, MIN, MAX}) due("route(" + bad + ", 0, 0, 0)", y.route(bad, 0, 0, 0), BAD);
        for (int bad : new int[] {-1, 9, 36, MIN, MAX}) {
            due("route(0, " + bad + ", 0, 0)", y.route(0, bad, 0, 0), BAD);
            due("route(0, 0, " + bad + ", 0)", y.route(0, 0, bad, 0), BAD);
        }
        for (int bad : new int[] {-1, 2, MIN, MAX}) due("route(0, 0, 1, " + bad + ")", y.route(0, 0, 1, bad), BAD);
    }

    private static void routesInRain() {
        DrumMaps x = laid("r030;d0;d3;w1;");
        route(x, 0, 0, 2, 2, 1);
        route(x, 1, 0, 2, 2, 1);
        for (int w = 2; w <= 3; w++) {
            x.rain(w);
            route(x, 0, 0, 2, NONE, NONE);
            route(x, 1, 0, 2, 4, 1);
            route(x, 0, 0, 1, NONE, NONE);
            route(x, 1, 0, 1, 2, 1);
            route(x, 0, 1, 2, 2, 2);
            route(x, 0, 1, 1, 0, NONE);
            due("none goes behind BAD", x.route(0, 0, 2, 2), BAD);
        }
        DrumMaps y = laid("r0100;r0200;r0000;d0;w2;");
        route(y, 0, 4, 6, 6, 5);
        route(y, 0, 0, 1, 3, 1);
        route(y, 0, 0, 5, 6, 4);
        route(y, 0, 1, 0, 2, 0);
    }

    private static void truths() {
        DrumMaps x = laid("r0100;r0200;r0030;d1;d2;x0,1,3;x1,4,3;");
        due("to place 0", laid("r10;d1;").truth(1, 0), 2);
        due("truth(0, 2)", x.truth(0, 2), 3);
        due("truth(4, 6)", x.truth(4, 6), 4);
        due("truth(8, 11)", x.truth(8, 11), 3);
        due("truth(5, 5)", x.truth(5, 5), 0);
        x.rain(2);
        due("truth(0, 2) when wet", x.truth(0, 2), 5);
        due("truth(8, 11) when wet", x.truth(8, 11), 12);
        due("truth(8, 10) when wet", x.truth(8, 10), NONE);
        due("truth(10, 11) when wet", x.truth(10, 11), 2);
        due("truth(10, 10) when wet", x.truth(10, 10), 0);
        for (int bad : new int[] {-1, 12, MIN, MAX}) {
            due("truth(" + bad + ", 0)", x.truth(bad, 0), BAD);
            due("truth(0, " + bad + ")", x.truth(0, bad), BAD);
        }
    }

    private static void passing() {
        DrumMaps x = laid("r0120;d0;t0,3,0;t3,3,0;");
        due("pass(1)", x.pass(1), 1);
        man("1 hour", x, 0, 0, 3, 0, 0, 1, 1);
        due("pass(1)", x.pass(1), 2);
        man("2 hours", x, 0, 1, 3, 0, 0, NONE, 0);
        due("pass(2)", x.pass(2), 4);
        man("4 hours", x, 0, 1, 3, 0, 0, 2, 1);
        due("pass(2)", x.pass(2), 6);
        man("6 hours", x, 0, 3, 3, 0, 1, NONE, 0);
        man("6 hours", x, 1, 3, 3, 0, 1, NONE, 0);
        due("pass(24)", x.pass(24), 30);
        man("30 hours", x, 0, 3, 3, 0, 1, NONE, 0);
        for (int bad : new int[] {0, 25, -1, MIN, MAX}) due("pass(" + bad + ")", x.pass(bad), BAD);
        due("no hour goes by then", x.count(5), 30);
        DrumMaps y = laid("r0120;d0;t0,3,0;w2;");
        y.pass(4);
        man("wet", y, 0, 1, 3, 0, 0, 2, 3);
        y.rain(0);
        y.pass(2);
        man("it takes what it took when he set out", y, 0, 1, 3, 0, 0, 2, 1);
        y.pass(2);
        man("the next one takes what it takes now", y, 0, 3, 3, 0, 1, NONE, 0);
    }

    private static void passingLost() {
        DrumMaps x = laid("r030;d0;d3;t0,2,0;t0,2,1;w2;");
        x.pass(1);
        man("no route: he stays", x, 0, 0, 2, 0, 0, NONE, 0);
        man("a ford in truth: lost", x, 1, 0, 2, 1, 2, NONE, 0);
        x.rain(0);
        x.pass(2);
        man("a route again", x, 0, 2, 2, 0, 1, NONE, 0);
        man("lost for good", x, 1, 0, 2, 1, 2, NONE, 0);
        DrumMaps y = laid("r010;r010;d0;x0,1,0;t0,2,0;");
        y.pass(1);
        man("what is told leads, what is takes its hours", y, 0, 0, 2, 0, 0, 1, 1);
        DrumMaps z = laid("r030;d0;t0,2,0;");
        z.pass(1);
        man("in the ford", z, 0, 1, 2, 0, 0, NONE, 0);
        z.rain(3);
        z.pass(1);
        man("out of a ford he can go when it is wet", z, 0, 1, 2, 0, 0, 2, 1);
        DrumMaps u = laid("r03;r00;d0;x0,1,2;t0,1,0;w3;");
        u.pass(1);
        man("a ford told as a hill: lost", u, 0, 0, 1, 0, 2, NONE, 0);
        DrumMaps v = laid("r03;d0;t0,1,0;w1;");
        v.pass(1);
        man("a ford when not too wet", v, 0, 1, 1, 0, 1, NONE, 0);
    }

    private static void raining() {
        DrumMaps x = laid("r00;d0;w1;t0,1,0;");
        due("rain(3)", x.rain(3), 1);
        due("W", x.count(4), 3);
        due("rain(0)", x.rain(0), 3);
        due("W", x.count(4), 0);
        due("rain(0)", x.rain(0), 0);
        for (int bad : new int[] {-1, 4, MIN, MAX}) due("rain(" + bad + ")", x.rain(bad), BAD);
        due("W stays", x.count(4), 0);
        due("three can be undone", x.count(10), 3);
        due("no hour goes by", x.count(5), 0);
        due("without a w", laid("r0;d0;").count(4), 0);
    }

    private static void retuning() {
        DrumMaps x = laid("r0123;d0;d1;x0,0,3;");
        due("retune(0, 0, 1)", x.retune(0, 0, 1), 3);
        due("retune(0, 0, 0)", x.retune(0, 0, 0), 1);
        due("retune(0, 3, 2)", x.retune(0, 3, 2), 3);
        due("retune(1, 1, 1)", x.retune(1, 1, 1), 1);
        due("it tells", x.drum(0, 3, 0), 2);
        due("the other does not", x.drum(1, 3, 0), 3);
        due("it is", x.place(3), 3);
        due("four can be undone", x.count(10), 4);
        for (int bad : new int[] {-1, 2, 4, MIN, MAX}) due("retune(" + bad + ", 0, 0)", x.retune(bad, 0, 0), BAD);
        for (int bad : new int[] {-1, 4, 36, MIN, MAX}) due("retune(0, " + bad + ", 0)", x.retune(0, bad, 0), BAD);
        for (int bad : new int[] {-1, 4, MIN, MAX}) due("retune(0, 0, " + bad + ")", x.retune(0, 0, bad), BAD);
        due("still four", x.count(10), 4);
    }

    private static void giving() {
        DrumMaps x = laid("r0000;r0000;d0;d1;d2;x1,1,2;x1,2,2;t0,3,0;t0,0,1;");
        due("give(0, 1)", x.give(0, 1), 0);
        due("his now", x.traveller(0, 2), 1);
        due("give(0, 1) again", x.give(0, 1), 1);
        due("two can be undone", x.count(10), 2);
        x.pass(1);
        man("he goes by it", x, 0, 4, 3, 1, 0, NONE, 0);
        due("one who is there", x.give(1, 0), NO);
        due("BAD ahead of NO", x.give(1, 3), BAD);
        for (int bad : new int[] {-1, 2, 4, MIN, MAX}) due("give(" + bad + ", 0)", x.give(bad, 0), BAD);
        for (int bad : new int[] {-1, 3, 4, MIN, MAX}) due("give(0, " + bad + ")", x.give(0, bad), BAD);
        due("none of these can be undone", x.count(10), 3);
        DrumMaps y = laid("r03;d3;t0,1,0;w2;");
        y.pass(1);
        due("one who is lost", y.give(0, 0), NO);
        DrumMaps z = laid("r020;d0;d1;t0,2,0;");
        z.pass(1);
        due("on his way", z.give(0, 1), 0);
        man("he goes on", z, 0, 0, 2, 1, 0, 1, 2);
    }

    private static void sending() {
        DrumMaps x = laid("r0200;d0;t0,3,0;t3,3,0;");
        due("to where he is", x.send(0, 0), 1);
        man("there", x, 0, 0, 0, 0, 1, NONE, 0);
        due("one who is there, elsewhere", x.send(1, 2), 0);
        man("he goes", x, 1, 3, 2, 0, 0, NONE, 0);
        due("and back", x.send(1, 3), 1);
        due("one who is there, there", x.send(1, 3), 1);
        due("four can be undone", x.count(10), 4);
        x.send(0, 2);
        x.pass(1);
        due("on his way, to where he set out from", x.send(0, 0), 0);
        man("he goes on", x, 0, 0, 0, 0, 0, 1, 2);
        x.pass(2);
        man("to where he set out for", x, 0, 1, 0, 0, 0, NONE, 0);
        x.pass(1);
        man("and then back", x, 0, 0, 0, 0, 1, NONE, 0);
        x.send(0, 2);
        x.pass(1);
        due("on his way, to where he set out for", x.send(0, 1), 0);
        x.pass(2);
        man("there he is", x, 0, 1, 1, 0, 1, NONE, 0);
        for (int bad : new int[] {-1, 2, 4, MIN, MAX}) due("send(" + bad + ", 0)", x.send(bad, 0), BAD);
        for (int bad : new int[] {-1, 4, 36, MIN, MAX}) due("send(0, " + bad + ")", x.send(0, bad), BAD);
        DrumMaps y = laid("r03;d3;t0,1,0;w2;");
        y.pass(1);
        due("one who is lost", y.send(0, 0), NO);
        due("BAD ahead of NO", y.send(0, 2), BAD);
        due("one can be undone", y.count(10), 1);
    }

    private static void undoing() {
        DrumMaps x = laid("r0200;r0000;d0;d1;t0,3,0;t0,3,1;");
        due("undo() of nothing", x.undo(), NO);
        long[] stood = new long[5];
        stood[0] = standing(x);
        x.pass(2);
        stood[1] = standing(x);
        x.rain(3);
        stood[2] = standing(x);
        x.retune(0, 0, 3);
        stood[3] = standing(x);
        x.send(0, 7);
        stood[4] = standing(x);
        x.give(0, 1);
        due("five can be undone", x.count(10), 5);
        x.pass(25);
        x.rain(4);
        x.retune(0, 0, 4);
        x.send(0, 9);
        x.give(0, 2);
        due("what did not go can not be", x.count(10), 5);
        for (int i = 4; i >= 0; i--) {
            due("undo()", x.undo(), i);
            due("as it stood ahead of change " + i, standing(x), stood[i]);
        }
        due("undo() once more", x.undo(), NO);
        due("nothing changes then", standing(x), stood[0]);
        x.hear(0, 0);
        x.keep();
        x.rain(1);
        x.undo();
        due("what is heard stays", x.count(9), 1);
        due("what is kept stays", x.count(11), 1);
        undoingTheLastEight();
    }

    private static void undoingTheLastEight() {
        DrumMaps z = laid("r000000;d0;t0,5,0;");
        for (int i = 1; i <= 9; i++) z.pass(1);
        due("the last eight", z.count(10), 8);
        for (int i = 7; i >= 0; i--) {
            due("undo()", z.undo(), i);
            due("hours", z.count(5), i + 1);
        }
        due("the first can not be", z.undo(), NO);
        man("behind the first", z, 0, 1, 5, 0, 0, NONE, 0);
        for (int i = 1; i <= 12; i++) z.rain(i % 4);
        z.undo();
        due("W", z.count(4), 3);
        z.rain(1);
        due("eight again", z.count(10), 8);
        z.undo();
        due("W", z.count(4), 3);
        due("seven", z.count(10), 7);
    }

    private static void arriving() {
        DrumMaps x = laid("r0210;r0000;d2;d0;t0,3,0;t0,3,1;t2,2,0;");
        due("arrives(0)", x.arrives(0), 6);
        due("arrives(1)", x.arrives(1), 5);
        due("arrives(2)", x.arrives(2), 0);
        x.pass(2);
        due("two hours on", x.arrives(0), 4);
        due("two hours on", x.arrives(1), 3);
        due("nothing goes by", x.count(5), 2);
        for (int bad : new int[] {-1, 3, 4, MIN, MAX}) due("arrives(" + bad + ")", x.arrives(bad), BAD);
        DrumMaps y = laid(LONG_ROAD + "t0,25,0;t0,26,0;t0,24,0;");
        due("sixty hours", y.arrives(0), 60);
        due("sixty-four", y.arrives(1), NONE);
        due("fifty-six", y.arrives(2), 56);
        DrumMaps woods = laid(LONG_ROAD.replace("r222222;r3", "r211122;r3") + "t0,26,0;");
        due("sixty-one", woods.arrives(0), NONE);
        woods.pass(1);
        due("an hour on", woods.arrives(0), 60);
        DrumMaps z = laid("r030;d0;d3;t0,2,0;t0,2,1;w2;");
        due("no route", z.arrives(0), NONE);
        due("he will be lost", z.arrives(1), NONE);
        z.pass(1);
        due("he is lost", z.arrives(1), NONE);
    }

    private static void losing() {
        DrumMaps x = laid("r0030;d0;d3;t0,3,0;t0,3,1;t1,1,1;w2;");
        due("he stays", x.loses(0), NONE);
        due("behind two hours for a place, then one", x.loses(1), 3);
        due("there", x.loses(2), NONE);
        x.pass(2);
        due("next", x.loses(1), 1);
        x.pass(1);
        due("lost", x.loses(1), 0);
        x.rain(0);
        due("stays lost", x.loses(1), 0);
        due("the other one will get over", x.loses(0), NONE);
        for (int bad : new int[] {-1, 3, 4, MIN, MAX}) due("loses(" + bad + ")", x.loses(bad), BAD);
        String ford = LONG_ROAD.replace("r222222;d0;", "r223222;d0;x0,26,0;");
        DrumMaps y = laid(ford + "t0,26,0;t1,26,0;");
        due("in hour sixty-one", y.loses(0), NONE);
        due("in hour fifty-seven", y.loses(1), 57);
        DrumMaps z = laid(ford.replace("r222222;r3", "r212222;r3") + "t0,26,0;");
        due("in hour sixty", z.loses(0), 60);
    }

    private static void leading() {
        DrumMaps x = laid(HILL_ROAD + "t0,3,0;");
        due("led(0, 0, 3)", x.led(0, 0, 3), 6);
        due("led(1, 0, 3)", x.led(1, 0, 3), 5);
        due("led(1, 3, 0)", x.led(1, 3, 0), 5);
        due("led(0, 2, 2)", x.led(0, 2, 2), 0);
        due("led(0, 0, 1)", x.led(0, 0, 1), 3);
        for (int bad : new int[] {-1, 3, 4, MIN, MAX}) due("led(" + bad + ", 0, 0)", x.led(bad, 0, 0), BAD);
        for (int bad : new int[] {-1, 8, 36, MIN, MAX}) {
            due("led(0, " + bad + ", 0)", x.led(0, bad, 0), BAD);
            due("led(0, 0, " + bad + ")", x.led(0, 0, bad), BAD);
        }
        DrumMaps y = laid(LONG_ROAD);
        due("sixty hours", y.led(0, 0, 25), 60);
        due("sixty-four", y.led(0, 0, 26), NONE);
        due("sixty", y.led(0, 1, 26), 60);
        DrumMaps z = laid("r030;d0;d3;w2;");
        due("no route", z.led(0, 0, 2), NONE);
        due("lost", z.led(1, 0, 2), NONE);
        due("out of a ford", z.led(0, 1, 2), 2);
        DrumMaps u = laid("r0000;d0;x0,3,1;x0,0,2;");
        due("he takes what it is", u.led(0, 0, 3), 3);
    }

    private static void fastestDrum() {
        DrumMaps x = laid(HILL_ROAD + "t0,3,0;t0,0,0;t0,4,0;");
        due("the lowest of the best", x.fastest(0), 1);
        due("one who is there", x.fastest(1), NO);
        due("all alike", x.fastest(2), 0);
        due("his stays his", x.traveller(0, 2), 0);
        x.pass(1);
        due("on his way, all are alike", x.fastest(0), 0);
        for (int bad : new int[] {-1, 3, 4, MIN, MAX}) due("fastest(" + bad + ")", x.fastest(bad), BAD);
        DrumMaps y = laid("r030;d0;d3;t0,2,0;t0,2,1;w2;");
        due("none", y.fastest(0), NONE);
        y.pass(1);
        due("one who is lost", y.fastest(1), NO);
        DrumMaps z = laid("r0000;r3330;d0;d0;x0,1,3;t0,3,0;w2;");
        due("where his would not bring him", z.fastest(0), 1);
        DrumMaps u = laid(LONG_ROAD + "t0,25,0;t0,26,0;");
        due("in sixty hours", u.fastest(0), 0);
        due("a drum that is none tells nothing", laid("r00;d0;x0,1,3;t0,1,0;w2;").fastest(0), NONE);
        due("not in sixty-four", u.fastest(1), NONE);
    }

    private static void tuning() {
        DrumMaps x = laid("r0210;r0000;d0;x0,1,0;t0,3,0;t3,3,0;");
        due("the hill told open", x.tune(0), 1);
        due("one who is there", x.tune(1), NO);
        due("nothing changes by it", x.drum(0, 1, 0), 0);
        for (int bad : new int[] {-1, 2, 4, MIN, MAX}) due("tune(" + bad + ")", x.tune(bad), BAD);
        x.retune(0, 1, 2);
        due("all is told as it is", x.tune(0), NONE);
        due("the lowest of several", laid("r00;r00;d0;x0,1,3;x0,2,3;t0,3,0;w2;").tune(0), 1);
        due("the soonest, not the lowest", laid("r02;r00;d0;x0,1,3;x0,2,3;t0,3,0;w2;").tune(0), 2);
        due("no sooner than as it is", laid("r00;r00;d0;x0,1,1;t0,3,0;").tune(0), NONE);
        due("place 0", laid("r000;d0;x0,0,3;t2,0,0;w2;").tune(0), 0);
        due("where he would not arrive", laid("r000;d0;x0,1,3;t0,2,0;w2;").tune(0), 1);
        due("one alone does not do", laid("r0000;d0;x0,1,3;x0,2,3;t0,3,0;w2;").tune(0), NONE);
        due("his drum's, not another's", laid("r0210;r0000;d0;d0;x0,1,0;t0,3,1;").tune(0), NONE);
        due("a toy is not mended by it", laid("r0300;r0000;d3;t0,2,0;w2;").tune(0), NONE);
        DrumMaps y = laid("r03;d3;t0,1,0;w2;");
        y.pass(1);
        due("one who is lost", y.tune(0), NO);
        DrumMaps z = laid(LONG_ROAD + "x0,1,3;t0,25,0;t0,26,0;");
        due("in sixty hours", z.tune(0), 1);
        due("not in sixty-four", z.tune(1), NONE);
    }

    private static void meeting() {
        DrumMaps x = laid("r00000;d0;t0,4,0;t4,0,0;t3,0,0;t2,2,0;");
        x.rains(0, 1, 5, 0);
        due("in the middle", x.meet(0, 1), 2);
        due("either way", x.meet(1, 0), 2);
        due("past one another", x.meet(0, 2), NONE);
        due("with one who rests", x.meet(3, 2), 1);
        due("in the same hour", x.meet(0, 3), 2);
        for (int bad : new int[] {-1, 4, MIN, MAX}) {
            due("meet(0, " + bad + ")", x.meet(0, bad), BAD);
            due("meet(" + bad + ", 0)", x.meet(bad, 0), BAD);
        }
        for (int t = 0; t < 4; t++) due("with himself", x.meet(t, t), BAD);
        DrumMaps y = laid("r020;d0;t0,0,0;t0,2,0;");
        due("at first", y.meet(0, 1), 0);
        y.pass(1);
        due("not with one on his way", y.meet(0, 1), NONE);
        DrumMaps z = laid("r03;d3;t0,1,0;t0,0,0;w2;");
        z.pass(1);
        due("with one who is lost", z.meet(0, 1), 0);
        DrumMaps u = laid(LONG_ROAD + "t25,25,0;t0,25,0;t26,26,0;t0,26,0;");
        due("in sixty hours", u.meet(0, 1), 60);
        due("not in sixty-four", u.meet(2, 3), NONE);
        due("both gone by", u.count(5), 0);
    }

    private static void clashing() {
        DrumMaps x = laid("r0123;r0000;d0;d1;d0;x0,2,0;x1,5,1;x2,2,0;x2,7,0;");
        due("how many", x.clash(0, 1, 0), 2);
        due("the lowest", x.clash(0, 1, 1), 2);
        due("either way", x.clash(1, 0, 1), 2);
        due("none", x.clash(0, 2, 0), 0);
        due("the lowest of none", x.clash(0, 2, 1), NONE);
        x.retune(0, 0, 2);
        due("retuned", x.clash(0, 2, 0), 1);
        due("at place 0", x.clash(0, 2, 1), 0);
        for (int bad : new int[] {-1, 3, 4, MIN, MAX}) {
            due("clash(" + bad + ", 0, 0)", x.clash(bad, 0, 0), BAD);
            due("clash(0, " + bad + ", 0)", x.clash(0, bad, 0), BAD);
        }
        for (int bad : new int[] {-1, 2, MIN, MAX}) due("clash(0, 1, " + bad + ")", x.clash(0, 1, bad), BAD);
        due("alike", x.clash(1, 1, 0), BAD);
    }

    private static void leadingRight() {
        DrumMaps x = laid(HILL_ROAD + "d3;");
        due("all but the OLD one", x.right(0, 3), 2 + 4 + 8);
        due("all", x.right(0, 4), 15);
        due("alike places", x.right(1, 1), 15);
        for (int bad : new int[] {-1, 8, 36, MIN, MAX}) {
            due("right(" + bad + ", 0)", x.right(bad, 0), BAD);
            due("right(0, " + bad + ")", x.right(0, bad), BAD);
        }
        DrumMaps y = laid("r030;r000;r000;d3;d0;w2;");
        due("by the toy one is lost", y.right(0, 2), 2);
        due("there is none in truth", laid("r030;d0;d3;w2;").right(0, 2), 0);
        due("in sixty hours", laid(LONG_ROAD).right(0, 25), 1);
        due("not in sixty-four", laid(LONG_ROAD).right(0, 26), 0);
    }

    private static void hearing() {
        DrumMaps x = laid("r0123;d0;");
        for (int bad : new int[] {-1, 4, 36, MIN, MAX}) due("hear(" + bad + ", 0)", x.hear(bad, 0), BAD);
        for (int bad : new int[] {-1, 4, MIN, MAX}) due("hear(0, " + bad + ")", x.hear(0, bad), BAD);
        for (int i = 1; i <= 8; i++) due("hear " + i, x.hear(i % 4, i % 4), i);
        due("the ninth", x.hear(0, 0), FULL);
        due("BAD ahead of FULL", x.hear(4, 0), BAD);
        due("eight", x.count(9), 8);
        due("nothing to undo", x.count(10), 0);
    }

    private static void forgetting() {
        DrumMaps x = laid("r0123;d0;");
        due("nothing", x.forget(), 0);
        x.hear(0, 1);
        x.hear(1, 1);
        due("two", x.forget(), 2);
        due("none", x.count(9), 0);
        due("all drums again", x.which(), 1);
        due("the first again", x.hear(2, 2), 1);
        due("forgotten is forgotten", x.which(), 1);
    }

    private static void whichDrum() {
        DrumMaps x = laid("r0123;d0;d1;d2;x1,0,1;x2,3,0;");
        due("nothing heard", x.which(), 7);
        x.hear(0, 0);
        due("0 is open", x.which(), 1 + 4);
        x.hear(3, 3);
        due("3 is a ford", x.which(), 1);
        x.hear(1, 1);
        due("what it tells, not what one takes it for", x.which(), 1);
        x.retune(2, 3, 3);
        due("as it tells now", x.which(), 1 + 4);
        x.hear(0, 1);
        due("both can not be", x.which(), 0);
        x.forget();
        x.hear(0, 1);
        due("drum 1 alone", x.which(), 2);
    }

    private static void seeing() {
        DrumMaps x = laid(HILL_ROAD + "t0,3,0;t5,5,1;");
        due("now", x.seen(0, 0, 0), 7);
        due("not there", x.seen(0, 1, 0), 0);
        due("GOATs behind one hour", x.seen(0, 4, 1), 6);
        due("the OLD one on his way", x.seen(0, 0, 1), 1);
        due("the OLD one", x.seen(0, 0, 2), 1);
        due("the OLD one", x.seen(0, 1, 3), 1);
        due("GOATs there", x.seen(0, 3, 5), 6);
        due("all there", x.seen(0, 3, 6), 7);
        due("all there", x.seen(0, 3, 30), 7);
        due("one who rests", x.seen(1, 5, 30), 7);
        due("his stays his", x.traveller(0, 2), 0);
        for (int bad : new int[] {-1, 2, 4, MIN, MAX}) due("seen(" + bad + ", 0, 0)", x.seen(bad, 0, 0), BAD);
        for (int bad : new int[] {-1, 8, 36, MIN, MAX}) due("seen(0, " + bad + ", 0)", x.seen(0, bad, 0), BAD);
        for (int bad : new int[] {-1, 31, MIN, MAX}) due("seen(0, 0, " + bad + ")", x.seen(0, 0, bad), BAD);
        DrumMaps y = laid("r030;d0;d3;t0,2,1;w2;");
        due("lost or not, where he set out from", y.seen(0, 0, 9), 3);
        y.pass(1);
        due("who is lost stays", y.seen(0, 0, 9), 3);
    }

    private static void rains(DrumMaps x, int t, int n, int tenths, int above, int below) {
        String what = "rains(" + t + ", " + n + ", " + tenths + ", ";
        due(what + "0)", x.rains(t, n, tenths, 0), above);
        due(what + "1)", x.rains(t, n, tenths, 1), below);
    }

    private static void rainByChance() {
        DrumMaps x = laid("r000;r003;d0;d3;t0,1,0;t4,5,0;t4,5,1;t4,4,0;");
        rains(x, 0, 1, 3, 7, 10);
        rains(x, 0, 2, 3, 1, 1);
        rains(x, 1, 2, 3, 91, 100);
        rains(x, 2, 2, 3, 7, 10);
        rains(x, 1, 2, 5, 3, 4);
        rains(x, 1, 8, 10, 0, 1);
        rains(x, 1, 8, 0, 1, 1);
        rains(x, 1, 8, 9, 56953279, 100000000);
        rains(x, 1, 0, 5, 0, 1);
        rains(x, 3, 0, 5, 1, 1);
        rains(x, 3, 8, 5, 1, 1);
        rains(x, 0, 1, 2, 4, 5);
        due("nothing changes by it", x.count(4), 0);
        x.rain(2);
        rains(x, 0, 1, 0, 0, 1);
        rains(x, 2, 3, 0, 0, 1);
        x.pass(1);
        x.rain(0);
        rains(x, 0, 1, 10, 1, 1);
        rains(x, 2, 8, 0, 0, 1);
        for (int bad : new int[] {-1, 4, MIN, MAX}) due("rains(" + bad + ", 0, 0, 0)", x.rains(bad, 0, 0, 0), BAD);
        for (int bad : new int[] {-1, 9, MIN, MAX}) due("rains(0, " + bad + ", 0, 0)", x.rains(0, bad, 0, 0), BAD);
        for (int bad : new int[] {-1, 11, MIN, MAX}) due("rains(0, 0, " + bad + ", 0)", x.rains(0, 0, bad, 0), BAD);
        for (int bad : new int[] {-1, 2, MIN, MAX}) due("rains(0, 0, 0, " + bad + ")", x.rains(0, 0, 0, bad), BAD);
    }

    private static void year(DrumMaps x, int z, int n, int there, int lost) {
        long stood = standing(x);
        due("year(" + z + ", " + n + ", 0)", x.year(z, n, 0), there);
        due("year(" + z + ", " + n + ", 1)", x.year(z, n, 1), lost);
        due("nothing changes by it", standing(x), stood);
    }

    private static void years() {
        // DRAW for k = 0: z 5: 56728 (W 3), 6: 18128 (W 2), 10: 3008 (W 0), 21: 62152 (W 1), 3: 44670 (nothing).
        DrumMaps goat = laid("r03;d0;t0,1,0;w2;");
        year(goat, 10, 1, 1, 0);
        year(goat, 21, 1, 1, 0);
        year(goat, 5, 1, 0, 0);
        year(goat, 3, 1, 0, 0);
        DrumMaps toy = laid("r03;d3;t0,1,0;w0;");
        year(toy, 5, 1, 0, 1);
        year(toy, 6, 1, 0, 1);
        year(toy, 10, 1, 1, 0);
        year(toy, 3, 1, 1, 0);
        // z 9999: DRAW 51303 (nothing), 32612 (nothing), then 6768 (W 2) ahead of the third hour.
        year(laid("r03;d3;t0,1,0;"), 9999, 1, 1, 0);
        DrumMaps far = laid("r003;r000;d3;t0,2,0;t0,1,0;");
        year(far, 9999, 1, 1, 0);
        year(far, 9999, 2, 2, 0);
        year(laid("r0003;d3;t0,3,0;"), 9999, 3, 0, 1);
        year(laid("r0003;d3;t0,3,0;"), 3, 3, 1, 0);
        // z 3: DRAW 55968 (W 0) ahead of the fourth hour: from wet by 2 he gets over from then on.
        year(laid("r03;d0;t0,1,0;w2;"), 3, 3, 0, 0);
        year(laid("r03;d0;t0,1,0;w2;"), 3, 4, 1, 0);
        year(laid("r0;d0;"), 16, 60, 0, 0);
        DrumMaps x = new DrumMaps();
        year(x, 5, 60, 2, 1);
        for (int bad : new int[] {-1, 10000, MIN, MAX}) due("year(" + bad + ", 1, 0)", x.year(bad, 1, 0), BAD);
        for (int bad : new int[] {-1, 0, 61, MIN, MAX}) due("year(0, " + bad + ", 0)", x.year(0, bad, 0), BAD);
        for (int bad : new int[] {-1, 2, MIN, MAX}) due("year(0, 1, " + bad + ")", x.year(0, 1, bad), BAD);
    }

    private static void yearsRetuneAndSend() {
        // z 17: DRAW 54129: drum 6766, place 1691, to 2; z 55: DRAW 53177: drum 6647, place 1661, to 1.
        DrumMaps x = laid("r03;d0;d0;t0,1,0;t0,1,1;t0,1,1;w2;");
        year(x, 17, 1, 0, 1);
        year(x, 55, 1, 0, 2);
        year(x, 7, 1, 0, 1);
        // DRAW by 2048: z 9006: 65505, so 31, FORD; z 1523: 55289, so 26, HILL.
        year(x, 9006, 1, 0, 0);
        year(x, 1523, 1, 0, 2);
        // At the very edges of "by 2048, cut": z 7081: 6145, so 3, FORD; z 9742: 40969, so 20, OPEN; both of place 0.
        year(laid("r30;d0;x0,0,1;t1,0,0;w2;"), 7081, 1, 0, 0);
        year(laid("r30;d0;t1,0,0;w2;"), 9742, 1, 0, 1);
        year(laid("r30;d0;t1,0,0;w2;"), 0, 1, 0, 1);
        // z 8: DRAW 48233: drum 6029, place 1507, to 3: told, a ford in the rain can not be entered.
        year(laid("r00;d0;t0,1,0;w2;"), 3, 2, 1, 0);
        year(laid("r00;d0;t0,1,0;w2;"), 8, 2, 0, 0);
        // z 16: DRAW 5042: traveller 630, place 157; z 20: DRAW 22874: traveller 2859, place 714.
        DrumMaps y = laid("r110;d0;t0,0,0;t2,2,0;");
        year(y, 3, 1, 2, 0);
        year(y, 16, 1, 1, 0);
        year(laid("r110;d0;t1,1,0;t2,2,0;"), 16, 1, 2, 0);
        year(laid("r110;d0;t0,0,0;t2,2,0;"), 20, 1, 1, 0);
        year(laid("r110;d0;t2,2,0;t0,0,0;"), 20, 1, 2, 0);
        DrumMaps lost = laid("r013;d3;t1,2,0;w2;");
        lost.pass(1);
        year(lost, 16, 1, 0, 1);
        year(lost, 3, 60, 0, 1);
    }

    private static void keeping() {
        DrumMaps x = new DrumMaps();
        due("keep()", x.keep(), 1);
        due("keep()", x.keep(), 2);
        long stood = standing(x);
        due("keep()", x.keep(), FULL);
        due("nothing changes then", standing(x), stood);
        due("kept", x.count(11), 2);
        due("nothing to undo", x.count(10), 0);
        x.back();
        due("there is room again", x.keep(), 2);
    }

    private static void goingBack() {
        DrumMaps x = laid("r0220;r0000;d0;d1;t0,3,0;");
        due("back() of nothing", x.back(), NO);
        x.pass(1);
        x.retune(1, 2, 3);
        x.keep();
        x.rain(2);
        x.give(0, 1);
        x.send(0, 7);
        x.pass(3);
        x.keep();
        x.pass(24);
        x.retune(0, 0, 1);
        x.hear(0, 0);
        x.write('r');
        int letters = x.count(12);
        due("back()", x.back(), 1);
        counts("as kept last", x, 8, 4, 2, 1, 2, 4, 0, 0, 7, 1, 0, 1, letters);
        due("nothing is undone then", x.undo(), NO);
        due("told as then", x.drum(0, 0, 0), 0);
        due("to 7", x.traveller(0, 1), 7);
        due("by 1", x.traveller(0, 2), 1);
        x.pass(1);
        due("back()", x.back(), 0);
        counts("as kept first", x, 8, 4, 2, 1, 0, 1, 0, 0, 7, 1, 0, 0, letters);
        man("as kept first", x, 0, 4, 3, 0, 0, NONE, 0);
        due("told as then", x.drum(1, 2, 0), 3);
        x.pass(1);
        due("back() once more", x.back(), NO);
        due("nothing changes then", x.count(10), 1);
        due("undo() of what came behind", x.undo(), 0);
        DrumMaps y = new DrumMaps();
        y.keep();
        y.rain(0);
        y.undo();
        due("kept is kept when undone", y.back(), 0);
    }

    private static void counting() {
        DrumMaps x = laid("r0033;r0000;d0;d3;d0;x0,0,1;x1,0,1;x1,5,2;t0,2,1;t1,1,0;t4,5,2;w2;");
        int letters = x.count(12);
        counts("laid", x, 8, 4, 3, 3, 2, 0, 1, 0, 6, 0, 0, 0, letters);
        x.pass(2);
        x.pass(1);
        x.hear(0, 0);
        x.keep();
        x.write('x');
        counts("later", x, 8, 4, 3, 3, 2, 3, 2, 1, 6, 1, 2, 1, letters + 1);
        x.retune(2, 0, 1);
        due("no more are sure", x.count(8), 6);
        x.retune(2, 7, 1);
        due("one less is sure", x.count(8), 5);
        x.retune(1, 5, 0);
        due("one more is sure", x.count(8), 6);
        for (int bad : new int[] {-1, 13, MIN, MAX}) due("count(" + bad + ")", x.count(bad), BAD);
    }
}
