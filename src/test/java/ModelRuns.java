import java.util.ArrayList;
import java.util.List;
import java.util.Random;

/** Runs of calls by chance (always the same chance), on DrumMaps and on the Model: every answer alike. */
public final class ModelRuns {
    private static final int CALLS = 512;
    private static final int[] WILD = {Integer.MIN_VALUE, -1000000, -5, -4, -3, -2, -1, 36, 37, 60, 61, 99, 127, 201,
        9999, 10000, 65536, Integer.MAX_VALUE};
    private static final String[] NAMES = {"write", "wipe", "fault", "lay", "place", "drum", "kind", "traveller", "route",
        "truth", "pass", "rain", "retune", "give", "send", "undo", "arrives", "loses", "led", "fastest", "tune", "meet",
        "clash", "right", "hear", "forget", "which", "seen", "rains", "year", "keep", "back", "count"};

    private final Random chance;
    private final DrumMaps maps = new DrumMaps();
    private final Model model = new Model();
    private final List<String> told = new ArrayList<>();
    private int calls;

    private ModelRuns(long seed) {
        chance = new Random(seed);
    }

    public static void main(String[] args) {
        int runs = args.length > 0 ? Integer.parseInt(args[0]) : 300;
        int from = args.length > 1 ? Integer.parseInt(args[1]) : 0;
        int wrong = 0;
        for (int seed = from; seed < from + runs && wrong < 5; seed++) {
            ModelRuns run = new ModelRuns(seed);
            if (!run.go()) {
                wrong++;
                System.out.println("seed " + seed + ": " + String.join(" ", run.told));
            }
        }
        System.out.println(wrong == 0 ? runs + " runs as by the model" : "not as by the model");
        if (wrong != 0) System.exit(1);
    }

    private boolean go() {
        boolean ok = true;
        if (chance.nextInt(8) != 0) {
            ok = write(chance.nextInt(6) == 0 ? spoiled(forest()) : forest()) && call("fault") && call("lay");
        }
        while (ok && calls < CALLS) {
            if (chance.nextInt(150) == 0) {
                ok = call("wipe") && write(chance.nextInt(3) == 0 ? spoiled(forest()) : forest()) && call("fault") && call("lay");
            } else {
                ok = callByChance();
            }
        }
        return ok;
    }

    private boolean write(String text) {
        boolean ok = call("wipe");
        for (int i = 0; ok && i < text.length() && calls < CALLS - 3; i++) ok = call("write", text.charAt(i));
        return ok;
    }

    private String forest() {
        StringBuilder s = new StringBuilder();
        int width = 1 + chance.nextInt(6);
        int rows = 1 + chance.nextInt(6);
        int places = width * rows;
        String grounds = new String[] {"0123", "000123", "0003", "0000001233", "0033", "1222"}[chance.nextInt(6)];
        for (int r = 0; r < rows; r++) {
            s.append('r');
            for (int i = 0; i < width; i++) s.append(grounds.charAt(chance.nextInt(grounds.length())));
            s.append(';');
        }
        int drums = 1 + chance.nextInt(4);
        for (int d = 0; d < drums; d++) s.append('d').append(chance.nextInt(10) == 0 ? "0" : "").append(chance.nextInt(4)).append(';');
        int tells = chance.nextInt(12);
        for (int i = 0; i < tells; i++) {
            s.append('x').append(chance.nextInt(drums)).append(',').append(chance.nextInt(places)).append(',').append(chance.nextInt(4)).append(';');
        }
        int men = chance.nextInt(5);
        for (int t = 0; t < men; t++) {
            s.append('t').append(chance.nextInt(places)).append(',').append(chance.nextInt(places)).append(',').append(chance.nextInt(drums)).append(';');
        }
        if (chance.nextInt(3) != 0) s.append('w').append(chance.nextInt(4)).append(';');
        return s.toString();
    }

    private String spoiled(String text) {
        StringBuilder s = new StringBuilder(text);
        for (int n = 1 + chance.nextInt(2); n > 0 && s.length() > 0; n--) {
            int at = chance.nextInt(s.length());
            char c = "rdxtw0123456789,;; .".charAt(chance.nextInt(20));
            switch (chance.nextInt(4)) {
                case 0: s.setCharAt(at, c); break;
                case 1: s.insert(at, c); break;
                case 2: s.deleteCharAt(at); break;
                default: s.append(new String[] {"r0;", "d0;", "t0,0,0;", "x0,0,4;", "w4;", "d4;", "r", "x0,99,0", "w003;"}[chance.nextInt(9)]); break;
            }
        }
        return s.toString();
    }

    /** Mostly numbers that are told, now and then one beyond, now and then a wild one. */
    private int number(int below) {
        int dice = chance.nextInt(40);
        if (dice == 0) return WILD[chance.nextInt(WILD.length)];
        if (dice == 1) return below;
        if (dice == 2) return -1;
        return chance.nextInt(Math.max(1, below));
    }

    private boolean callByChance() {
        int p = model.count(0);
        int d = model.count(2);
        int t = model.count(3);
        String name = NAMES[chance.nextInt(NAMES.length)];
        switch (name) {
            case "write": return chance.nextInt(6) != 0 || call(name, 30 + chance.nextInt(100));
            case "wipe": case "lay": return chance.nextInt(40) != 0 || call(name);
            case "fault": case "undo": case "forget": case "which": return call(name);
            case "keep": case "back": return chance.nextInt(3) != 0 || call(name);
            case "place": return call(name, number(p));
            case "drum": return call(name, number(d), number(p), number(3));
            case "kind": return call(name, number(d));
            case "traveller": return call(name, number(t), number(6));
            case "route": return call(name, number(d), number(p), number(p), number(2));
            case "truth": case "right": return call(name, number(p), number(p));
            case "pass": return call(name, chance.nextInt(3) == 0 ? number(25) : 1 + chance.nextInt(3));
            case "rain": return call(name, number(4));
            case "retune": return call(name, number(d), number(p), number(4));
            case "give": return call(name, number(t), number(d));
            case "send": return call(name, number(t), number(p));
            case "led": return call(name, number(d), number(p), number(p));
            case "meet": return call(name, number(t), number(t));
            case "clash": return call(name, number(d), number(d), number(2));
            case "hear": return call(name, number(p), number(4));
            case "seen": return call(name, number(t), number(p), number(31));
            case "rains": return call(name, number(t), number(9), number(11), number(2));
            case "year": return call(name, number(10000), number(61), number(2));
            case "count": return call(name, number(13));
            default: return call(name, number(t)); // arrives, loses, fastest, tune
        }
    }

    private boolean call(String name, int... numbers) {
        calls++;
        int got = Calls.ask(maps, name, numbers);
        int due = Calls.ask(model, name, numbers);
        if (!name.equals("write") || got != due) told.add(name + java.util.Arrays.toString(numbers) + "=" + got);
        else told.add("" + (char) numbers[0]);
        if (got == due) return true;
        told.add("!! due is " + due);
        return false;
    }
}
