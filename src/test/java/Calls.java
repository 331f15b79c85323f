import java.lang.reflect.InvocationTargetException;
import java.lang.reflect.Method;
import java.util.ArrayList;
import java.util.List;

/** The calls of the face with the numbers that the document tells for each, and all that can be asked of how it stands. */
final class Calls {
    /** Every call that takes numbers: d, t, p stand for a drum, a traveller, a place such as there are. */
    static final String[] TOLD = {
        "write 32..126", "place p", "drum d p 0..2", "kind d", "traveller t 0..5", "route d p p 0..1", "truth p p",
        "pass 1..24", "rain 0..3", "retune d p 0..3", "give t d", "send t p",
        "arrives t", "loses t", "led d p p", "fastest t", "tune t", "meet t t", "clash d d 0..1", "right p p",
        "hear p 0..3", "seen t p 0..30", "rains t 0..8 0..10 0..1", "year 0..9999 1..60 0..1", "count 0..12"};
    static final String[] WITHOUT_NUMBERS = {"wipe", "fault", "lay", "undo", "forget", "which", "keep", "back"};
    private static final String CHANGES = " write wipe lay pass rain retune give send undo hear forget keep back ";

    private Calls() {
    }

    static boolean changes(String name) {
        return CHANGES.contains(" " + name + " ");
    }

    static String name(String told) {
        return told.split(" ")[0];
    }

    /** The lowest and the highest number of each of a call's numbers, in this forest; none: {0, -1}. */
    static int[][] bounds(String told, DrumMaps x) {
        String[] parts = told.split(" ");
        int[][] bounds = new int[parts.length - 1][];
        for (int i = 1; i < parts.length; i++) {
            switch (parts[i]) {
                case "p": bounds[i - 1] = new int[] {0, x.count(0) - 1}; break;
                case "d": bounds[i - 1] = new int[] {0, x.count(2) - 1}; break;
                case "t": bounds[i - 1] = new int[] {0, x.count(3) - 1}; break;
                default:
                    String[] ends = parts[i].split("\\.\\.");
                    bounds[i - 1] = new int[] {Integer.parseInt(ends[0]), Integer.parseInt(ends[1])};
                    break;
            }
        }
        return bounds;
    }

    static int ask(Object maps, String name, int... numbers) {
        Class<?>[] types = new Class<?>[numbers.length];
        Object[] given = new Object[numbers.length];
        for (int i = 0; i < numbers.length; i++) {
            types[i] = int.class;
            given[i] = numbers[i];
        }
        try {
            Method m = maps.getClass().getDeclaredMethod(name, types);
            return (Integer) m.invoke(maps, given);
        } catch (InvocationTargetException thrown) {
            throw new IllegalStateException(name + " threw", thrown.getCause());
        } catch (ReflectiveOperationException e) {
            throw new IllegalStateException(name + " is not there", e);
        }
    }

    /** As it stands, and then what can be UNDONE and is KEPT: the object is used up by it. Some 280 calls at most. */
    static List<Integer> all(DrumMaps x) {
        List<Integer> all = asItStands(x);
        for (int left = x.count(10); left >= 0; left--) {
            all.add(x.undo());
            all.add(x.count(5) * 4 + x.count(4));
            if (x.count(3) > 0) all.add(x.traveller(0, 1));
        }
        for (int left = x.count(11); left >= 0; left--) {
            all.add(x.back());
            all.add(x.count(5) * 4 + x.count(4));
        }
        return all;
    }

    private static List<Integer> asItStands(DrumMaps x) {
        List<Integer> all = new ArrayList<>();
        for (int i = 0; i <= 12; i++) all.add(x.count(i));
        all.add(x.fault());
        all.add(x.which());
        for (int p = 0; p < all.get(0); p++) {
            all.add(x.place(p));
            for (int d = 0; d < all.get(2); d++) all.add(x.drum(d, p, 0));
        }
        for (int d = 0; d < all.get(2); d++) all.add(x.kind(d));
        for (int t = 0; t < all.get(3); t++) {
            for (int i = 0; i <= 5; i++) all.add(x.traveller(t, i));
        }
        return all;
    }
}
