/** Asks for answers that are due, tells those that are not, and ends a test by them. */
final class Due {
    static final int UNKNOWN = -1, OUTSIDE = -2, STATE = -3, FULL = -4, NONE = -9;
    static final int NULL = -11, CAST = -12, INDEX = -13, SIZE = -14;
    static final long LOST = Long.MIN_VALUE;
    static final int LEAST = Integer.MIN_VALUE, MOST = Integer.MAX_VALUE;

    private int asked = 0;
    private int wrong = 0;

    void is(int promise, String what, long got, long want) {
        asked++;
        if (got != want) {
            wrong++;
            if (wrong <= 50) {
                System.out.println("promise " + promise + ": " + what + " answered " + got + ", due is " + want);
            }
        }
    }

    void end() {
        System.out.println(asked + " asked, " + wrong + " not as due");
        if (wrong != 0 || asked == 0) {
            System.exit(1);
        }
    }

    /** Gives a sheet these cells. */
    static void fill(LentFiddles x, int k, int lane, int... cells) {
        x.sheet(k, lane, cells.length);
        for (int i = 0; i < cells.length; i++) {
            x.put(k, i, cells[i]);
        }
    }

    /** Gives a sheet the signs of a text, as bytes. */
    static void write(LentFiddles x, int k, String text) {
        x.sheet(k, 0, text.length());
        for (int i = 0; i < text.length(); i++) {
            x.put(k, i, text.charAt(i));
        }
    }
}
