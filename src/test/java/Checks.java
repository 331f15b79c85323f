/** Counts answers that are not the due ones. */
final class Checks {
    private int wrong;
    private int made;

    void due(String what, long got, long want) {
        made++;
        if (got != want) {
            wrong++;
            System.out.println(what + ": answered " + got + ", due is " + want);
        }
    }

    void end() {
        System.out.println(made + " answers, " + wrong + " not as due");
        if (wrong != 0 || made == 0) System.exit(1);
    }

    /** The text written and laid on a new object. */
    static DrumMaps laid(String text) {
        DrumMaps x = new DrumMaps();
        write(x, text);
        if (x.lay() < 0) throw new IllegalStateException("can not be laid: " + text);
        return x;
    }

    static void write(DrumMaps x, String text) {
        for (int i = 0; i < text.length(); i++) x.write(text.charAt(i));
    }
}
