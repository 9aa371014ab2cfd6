/** Promises 27 to 33: trips, planes, the limit, damp. */
public final class TripsTest {
    private static final Due due = new Due();

    public static void main(String[] args) {
        trip();
        tripFull();
        fix();
        spreadAndPlane();
        spreadOfTen();
        limit();
        over();
        damp();
        dampRefused();
        due.end();
    }

    private static LentFiddles ofWorths(int... worths) {
        LentFiddles x = new LentFiddles();
        for (int worth : worths) {
            x.violin(0, 0, worth);
        }
        return x;
    }

    private static void trip() {
        LentFiddles x = ofWorths(1, 2);
        due.is(27, "no violin", x.trip(2, -1, 0), Due.UNKNOWN);
        due.is(27, "no violin", x.trip(-1, 0, 0), Due.UNKNOWN);
        due.is(27, "day", x.trip(0, -1, 0), Due.OUTSIDE);
        due.is(27, "day", x.trip(0, 100001, 0), Due.OUTSIDE);
        due.is(27, "plane", x.trip(0, 0, -2), Due.OUTSIDE);
        due.is(27, "plane", x.trip(0, 0, 2), Due.OUTSIDE);
        due.is(27, "free", x.trip(0, 0, -1), 0);
        due.is(27, "goes already", x.trip(0, 0, 1), Due.STATE);
        due.is(27, "outside ahead of state", x.trip(0, 0, 2), Due.OUTSIDE);
        due.is(27, "another", x.trip(1, 0, 1), 1);
        due.is(27, "another day", x.trip(0, 100000, 0), 2);
        due.is(27, "how many", x.many(5), 3);
    }

    private static void tripFull() {
        LentFiddles x = ofWorths(1, 2);
        for (int t = 0; t < 40; t++) {
            due.is(27, "trip", x.trip(t % 2, t, 0), t);
        }
        due.is(27, "the 41st", x.trip(0, 99, 0), Due.FULL);
        due.is(27, "state ahead of full", x.trip(0, 0, 0), Due.STATE);
        due.is(27, "forty", x.many(5), 40);
        x.limit(1);
        due.is(32, "of forty", x.over(), 20);
        x.fix(39, -1);
        due.is(30, "of forty", x.plane(39), 0);
    }

    private static void fix() {
        LentFiddles x = ofWorths(5, 3);
        x.trip(0, 7, -1);
        x.trip(1, 7, 1);
        due.is(28, "no trip", x.fix(2, 5), Due.UNKNOWN);
        due.is(28, "no trip", x.fix(-1, 0), Due.UNKNOWN);
        due.is(28, "plane", x.fix(0, 2), Due.OUTSIDE);
        due.is(28, "plane", x.fix(0, -2), Due.OUTSIDE);
        due.is(28, "was free", x.fix(0, 1), Due.NONE);
        due.is(28, "was 1", x.fix(0, 0), 1);
        due.is(28, "was 0", x.fix(0, 0), 0);
        due.is(28, "free again", x.fix(0, -1), 0);
        due.is(28, "was told", x.fix(1, 1), 1);
        due.is(28, "was free, wherever it goes", x.fix(0, -1), Due.NONE);
    }

    private static void isPlanes(LentFiddles x, int... planes) {
        for (int t = 0; t < planes.length; t++) {
            due.is(30, "plane of " + t, x.plane(t), planes[t]);
        }
    }

    private static void spreadAndPlane() {
        LentFiddles x = ofWorths(10, 7, 4, 4);
        due.is(29, "no trip", x.spread(3), 0);
        x.trip(0, 3, -1);
        due.is(29, "one", x.spread(3), 10);
        isPlanes(x, 0);
        x.trip(1, 3, -1);
        x.trip(2, 3, -1);
        due.is(29, "three", x.spread(3), 11);
        isPlanes(x, 0, 1, 1);
        x.trip(3, 3, -1);
        due.is(29, "four", x.spread(3), 14);
        isPlanes(x, 0, 1, 0, 1);
        x.fix(2, 1);
        due.is(29, "one fixed", x.spread(3), 14);
        isPlanes(x, 0, 1, 1, 0);
        x.fix(2, 0);
        x.fix(0, 0);
        x.fix(1, 0);
        due.is(29, "three fixed", x.spread(3), 21);
        isPlanes(x, 0, 0, 0, 1);
        x.fix(3, 0);
        due.is(29, "all fixed", x.spread(3), 25);
        isPlanes(x, 0, 0, 0, 0);
        x.trip(0, 4, 1);
        due.is(29, "another day", x.spread(4), 10);
        due.is(29, "that day still", x.spread(3), 25);
        isPlanes(x, 0, 0, 0, 0, 1);
        due.is(29, "day", x.spread(-1), Due.OUTSIDE);
        due.is(29, "day", x.spread(100001), Due.OUTSIDE);
        due.is(29, "the last day", x.spread(100000), 0);
        due.is(30, "no trip", x.plane(5), Due.UNKNOWN);
        due.is(30, "no trip", x.plane(-1), Due.UNKNOWN);
        LentFiddles y = ofWorths(1, 1, 1);
        y.trip(2, 0, 0);
        y.trip(1, 0, -1);
        y.trip(0, 0, -1);
        due.is(29, "like worths", y.spread(0), 2);
        isPlanes(y, 0, 0, 1);
    }

    private static void spreadOfTen() {
        LentFiddles x = ofWorths(1000000, 1000000, 1000000, 1000000, 1000000,
            1000000, 1000000, 1000000, 1000000, 1000000);
        for (int v = 0; v < 10; v++) {
            x.trip(v, 5, -1);
        }
        due.is(29, "ten", x.spread(5), 5000000);
        isPlanes(x, 0, 0, 0, 0, 0, 1, 1, 1, 1, 1);
        for (int t = 0; t < 10; t++) {
            x.fix(t, 1);
        }
        due.is(29, "all in one", x.spread(5), 10000000);
    }

    private static void limit() {
        LentFiddles x = new LentFiddles();
        due.is(31, "below", x.limit(0), Due.OUTSIDE);
        due.is(31, "above", x.limit(100000001), Due.OUTSIDE);
        due.is(31, "at first", x.limit(1), 1000000);
        due.is(31, "the least", x.limit(100000000), 1);
        due.is(31, "the most", x.limit(7), 100000000);
    }

    private static void over() {
        LentFiddles x = ofWorths(600000, 500000, 1000000);
        due.is(32, "no day", x.over(), 0);
        x.trip(0, 1, 0);
        x.trip(1, 1, 0);
        x.trip(2, 2, 0);
        due.is(32, "one is above, one is like", x.over(), 1);
        x.limit(999999);
        due.is(32, "both", x.over(), 2);
        x.trip(0, 2, 1);
        x.trip(0, 3, -1);
        due.is(32, "days, not trips", x.over(), 2);
        x.fix(1, -1);
        due.is(32, "spread, not as it was", x.over(), 1);
        x.limit(1);
        due.is(32, "all", x.over(), 3);
        x.limit(100000000);
        due.is(32, "none", x.over(), 0);
    }

    private static void isDamp(int longest, int worst, int a, int b, int... hours) {
        LentFiddles x = new LentFiddles();
        Due.fill(x, 1, 1, hours);
        due.is(33, "the longest", x.damp(1, 1, 0, hours.length, a, b, 0), longest);
        due.is(33, "worst", x.damp(1, 1, 0, hours.length, a, b, 1), worst);
        due.is(49, "no fault", x.fault(), 0);
    }

    private static void damp() {
        isDamp(0, 0, 40, 60);
        isDamp(0, 0, 40, 60, 40, 50, 60);
        isDamp(1, 1, 40, 60, 39);
        isDamp(1, 1, 40, 60, 61);
        isDamp(1, 0, 40, 60, -1);
        isDamp(3, 0, 40, 60, -1, -1, -1);
        isDamp(3, 3, 40, 60, -1, -1, 0);
        isDamp(3, 3, 40, 60, 100, -1, -1);
        isDamp(4, 2, 40, 60, 50, 30, -1, 50, -1, -1, -1, -1, 50);
        isDamp(2, 2, 40, 60, 30, 70, 50, -1, 50);
        isDamp(2, 1, 40, 60, 30, 50, -1, -1);
        isDamp(3, 0, 0, 100, 0, 100, -1, -1, -1, 5);
        isDamp(2, 2, 50, 50, 50, 49, 51, 50);
        int[] sixty = new int[60];
        isDamp(60, 60, 1, 100, sixty);
        isDamp(0, 0, 0, 0, sixty);
        LentFiddles x = new LentFiddles();
        Due.fill(x, 0, 0, 101, 10, 20, 30, -2);
        due.is(33, "from i on, n cells", x.damp(0, 0, 1, 3, 20, 20, 0), 1);
        due.is(33, "no cells at the end", x.damp(0, 0, 5, 0, 20, 20, 0), 0);
        due.is(33, "above", x.damp(0, 0, 0, 4, 20, 20, 0), Due.OUTSIDE);
        due.is(33, "below", x.damp(0, 0, 1, 4, 20, 20, 1), Due.OUTSIDE);
    }

    private static void dampRefused() {
        LentFiddles x = new LentFiddles();
        x.sheet(0, 2, 3);
        isRefused(x, 4, 2, 0, 3, -1, 0, Due.UNKNOWN);
        isRefused(x, -1, 2, 0, 3, 0, 0, Due.UNKNOWN);
        isRefused(x, 0, 3, 0, 3, 0, 0, Due.OUTSIDE);
        isRefused(x, 0, -1, 0, 3, 0, 0, Due.OUTSIDE);
        isRefused(x, 0, 1, 0, 3, -1, 0, Due.OUTSIDE);
        isRefused(x, 0, 1, 0, 3, 0, 101, Due.OUTSIDE);
        isRefused(x, 0, 1, 0, 3, 101, 101, Due.OUTSIDE);
        isRefused(x, 0, 1, 0, 3, 51, 50, Due.OUTSIDE);
        isRefused(x, 0, 1, 9, -1, 0, 0, Due.CAST);
        isRefused(x, 1, 1, 9, -1, 0, 0, Due.NULL);
        isRefused(x, 0, 2, 9, -1, 0, 0, Due.SIZE);
        isRefused(x, 0, 2, 0, 4, 0, 0, Due.INDEX);
        isRefused(x, 0, 2, 4, 0, 0, 0, Due.INDEX);
        isRefused(x, 0, 2, -1, 0, 0, 0, Due.INDEX);
        isRefused(x, 0, 2, -1, 2, 0, 0, Due.INDEX);
        isRefused(x, 0, 2, 3, Due.MOST, 0, 0, Due.INDEX);
        isRefused(x, 0, 2, Due.MOST, Due.MOST, 0, 0, Due.INDEX);
        isRefused(x, 0, 2, 0, Due.LEAST, 0, 0, Due.SIZE);
        due.is(33, "what", x.damp(1, 2, 0, 3, 0, 0, 2), Due.OUTSIDE);
        due.is(33, "what", x.damp(1, 2, 0, 3, 0, 0, -1), Due.OUTSIDE);
        x.put(0, 1, Due.MOST);
        isRefused(x, 0, 2, 0, 3, 0, 0, Due.OUTSIDE);
        x.put(0, 1, Due.LEAST);
        isRefused(x, 0, 2, 0, 3, 0, 0, Due.OUTSIDE);
    }

    private static void isRefused(LentFiddles x, int sheet, int lane, int i, int n, int a, int b, int want) {
        for (int what = 0; what < 2; what++) {
            due.is(33, "damp refused", x.damp(sheet, lane, i, n, a, b, what), want);
            due.is(49, "its fault", x.fault(), want <= -11 ? -10 - want : 0);
        }
    }
}
