/** Promises 41 to 50: sheets, telling, praise, kinds, trace, faults, how many. */
public final class SheetsTest {
    private static final Due due = new Due();

    public static void main(String[] args) {
        sheet();
        lose();
        put();
        cutCells();
        at();
        tell();
        praise();
        as();
        traceWraps();
        fault();
        many();
        due.end();
    }

    private static void sheet() {
        LentFiddles x = new LentFiddles();
        due.is(41, "no sheet", x.sheet(4, 9, -1), Due.UNKNOWN);
        due.is(41, "no sheet", x.sheet(-1, 0, 1), Due.UNKNOWN);
        due.is(41, "lane ahead of size", x.sheet(0, 3, -1), Due.OUTSIDE);
        due.is(41, "lane", x.sheet(0, -1, 1), Due.OUTSIDE);
        due.is(41, "too long", x.sheet(0, 0, 61), Due.OUTSIDE);
        due.is(49, "refused", x.fault(), 0);
        due.is(41, "size", x.sheet(0, 0, -1), Due.SIZE);
        due.is(49, "its fault", x.fault(), 4);
        due.is(41, "size", x.sheet(0, 0, Due.LEAST), Due.SIZE);
        due.is(41, "there is nothing yet", x.lose(0), 0);
        due.is(41, "the longest", x.sheet(0, 2, 60), 1);
        due.is(49, "none", x.fault(), 0);
        due.is(41, "its last cell", x.at(0, 59, 2), 0);
        x.put(0, 59, 5);
        x.put(0, 0, 6);
        due.is(41, "refused", x.sheet(0, 0, -1), Due.SIZE);
        due.is(41, "changes nothing", x.at(0, 59, 2), 5);
        due.is(41, "a new row", x.sheet(0, 2, 60), 1);
        due.is(41, "has 0", x.at(0, 59, 2), 0);
        due.is(41, "has 0", x.at(0, 0, 2), 0);
        due.is(41, "an empty one", x.sheet(3, 0, 0), 1);
        due.is(41, "has no cell", x.at(3, 0, 0), Due.LOST);
        due.is(49, "index", x.fault(), 3);
        due.is(42, "an empty one is something", x.lose(3), 1);
    }

    private static void lose() {
        LentFiddles x = new LentFiddles();
        due.is(42, "no sheet", x.lose(4), Due.UNKNOWN);
        due.is(42, "no sheet", x.lose(-1), Due.UNKNOWN);
        for (int k = 0; k < 4; k++) {
            due.is(42, "nothing", x.lose(k), 0);
            x.sheet(k, k % 3, k);
        }
        due.is(42, "lost", x.lose(2), 1);
        due.is(42, "nothing again", x.lose(2), 0);
        due.is(42, "nothing is there", x.put(2, 0, 1), Due.NULL);
        due.is(42, "others stay", x.put(1, 0, 1), 1);
        due.is(42, "lost", x.lose(0), 1);
        x.put(2, 0, 1);
        x.lose(1);
        due.is(49, "lose names no fault", x.fault(), 1);
        x.lose(9);
        due.is(49, "nor where it is refused", x.fault(), 1);
    }

    private static void put() {
        LentFiddles x = new LentFiddles();
        due.is(43, "no sheet", x.put(4, 0, 1), Due.UNKNOWN);
        due.is(43, "no sheet", x.put(-1, 0, 1), Due.UNKNOWN);
        due.is(43, "nothing", x.put(0, -1, 1), Due.NULL);
        due.is(49, "null", x.fault(), 1);
        x.sheet(0, 2, 3);
        int[] outside = {-1, 3, Due.LEAST, Due.MOST};
        for (int i : outside) {
            due.is(43, "index", x.put(0, i, 1), Due.INDEX);
            due.is(49, "index", x.fault(), 3);
        }
        due.is(43, "the last", x.put(0, 2, 8), 1);
        due.is(49, "none", x.fault(), 0);
        due.is(43, "the first", x.put(0, 0, 9), 1);
        due.is(43, "is there", x.at(0, 2, 2), 8);
        due.is(43, "is there", x.at(0, 0, 2), 9);
        due.is(43, "between them", x.at(0, 1, 2), 0);
        due.is(43, "anew", x.put(0, 2, 7), 1);
        due.is(43, "is there", x.at(0, 2, 2), 7);
    }

    private static void cutCells() {
        LentFiddles x = new LentFiddles();
        int[] values = {0, 127, 128, 255, 256, -1, -128, -129, 32767, 32768, 65535, 65536, -32769, Due.MOST, Due.LEAST};
        for (int lane = 0; lane < 3; lane++) {
            x.sheet(lane, lane, values.length);
            for (int i = 0; i < values.length; i++) {
                due.is(43, "put", x.put(lane, i, values[i]), 1);
                int bits = 32 - (8 << lane);
                due.is(43, values[i] + " in lane " + lane, x.at(lane, i, lane), values[i] << bits >> bits);
            }
        }
    }

    private static void isLost(LentFiddles x, int k, int i, int lane, int wantFault) {
        due.is(44, "at", x.at(k, i, lane), Due.LOST);
        due.is(49, "its fault", x.fault(), wantFault);
    }

    private static void at() {
        LentFiddles x = new LentFiddles();
        isLost(x, 0, 0, 0, 1);
        isLost(x, 0, -1, 2, 1);
        isLost(x, 4, 0, 0, 0);
        isLost(x, 0, 0, 2, 1);
        isLost(x, 0, 0, 3, 0);
        isLost(x, 0, 0, -1, 0);
        isLost(x, -1, 0, 3, 0);
        x.sheet(0, 1, 2);
        isLost(x, 0, 0, 0, 2);
        isLost(x, 0, 9, 2, 2);
        isLost(x, 0, 2, 1, 3);
        isLost(x, 0, -1, 1, 3);
        isLost(x, 0, Due.MOST, 1, 3);
        due.is(44, "at", x.at(0, 1, 1), 0);
        due.is(49, "none", x.fault(), 0);
        x.put(0, 1, -300);
        due.is(44, "at", x.at(0, 1, 1), -300);
    }

    private static void tell() {
        LentFiddles x = new LentFiddles();
        for (int kind = 0; kind < 3; kind++) {
            x.violin(kind, 4 + kind, 1);
            Due.fill(x, 0, 0, 1, 1, 1);
            x.rings(kind, 0, 0, 0, 3 - kind);
        }
        due.is(45, "plain", x.tell(0), 4);
        due.is(48, "trace", x.trace(), 1);
        due.is(45, "old", x.tell(1), 5 + 2);
        due.is(48, "trace", x.trace(), (1 * 31 + 2) * 31 + 1);
        due.is(45, "famed", x.tell(2), 6 + 1 + 6);
        int was = (1 * 31 + 2) * 31 + 1;
        due.is(48, "trace", x.trace(), (((was * 31 + 3) * 31 + 2) * 31 + 1) * 31 + 1);
        was = x.trace();
        due.is(45, "no violin", x.tell(3), Due.UNKNOWN);
        due.is(45, "no violin", x.tell(-1), Due.UNKNOWN);
        due.is(48, "it left nothing", x.trace(), was);
    }

    private static void praise() {
        LentFiddles x = new LentFiddles();
        for (int v = 0; v < 6; v++) {
            x.violin(v % 3, 9 - v, 1);
        }
        int want = 0;
        for (int v = 0; v < 6; v++) {
            due.is(46, "praise", x.praise(v), v % 3 == 2 ? 70 : v);
            want = 31 * want + (v % 3 == 2 ? 5 : 4);
            due.is(48, "trace", x.trace(), want);
        }
        due.is(46, "no violin", x.praise(6), Due.UNKNOWN);
        due.is(46, "no violin", x.praise(-1), Due.UNKNOWN);
        due.is(48, "it left nothing", x.trace(), want);
    }

    private static void as() {
        LentFiddles x = new LentFiddles();
        for (int v = 0; v < 3; v++) {
            x.violin(v, 0, 1);
            for (int kind = 0; kind < 3; kind++) {
                due.is(47, v + " as " + kind, x.as(v, kind), kind <= v ? 1 : Due.CAST);
                due.is(49, "its fault", x.fault(), kind <= v ? 0 : 2);
            }
        }
        x.as(0, 2);
        due.is(47, "kind", x.as(0, 3), Due.OUTSIDE);
        due.is(49, "refused", x.fault(), 0);
        due.is(47, "kind", x.as(0, -1), Due.OUTSIDE);
        x.as(0, 2);
        due.is(47, "no violin", x.as(3, 3), Due.UNKNOWN);
        due.is(49, "refused", x.fault(), 0);
        due.is(47, "no violin", x.as(-1, 0), Due.UNKNOWN);
        due.is(48, "it leaves no trace", x.trace(), 0);
    }

    private static void traceWraps() {
        LentFiddles x = new LentFiddles();
        x.violin(2, 0, 1);
        int want = 0;
        for (int n = 0; n < 50; n++) {
            x.tell(0);
            int[] bodies = {3, 2, 1, 1};
            for (int body : bodies) {
                want = 31 * want + body;
            }
            due.is(48, "trace", x.trace(), want);
        }
    }

    private static void fault() {
        LentFiddles x = new LentFiddles();
        due.is(49, "ahead of any", x.fault(), 0);
        x.put(0, 0, 0);
        due.is(49, "null", x.fault(), 1);
        due.is(49, "asked again", x.fault(), 1);
        x.violin(0, 0, 1);
        x.player(1);
        x.violin(9, 9, 9);
        x.may(9, 9);
        x.tell(0);
        x.many(0);
        due.is(49, "others name none", x.fault(), 1);
        int[] met = new int[12];
        int c = 0;
        x.put(0, 0, 0);
        x.quarrels(9, 0, 0);
        met[c++] = x.fault();
        x.put(0, 0, 0);
        x.quarrel(9, 0, 0, 0);
        met[c++] = x.fault();
        x.put(0, 0, 0);
        x.quarrel(0, 0, 0, -1);
        met[c++] = x.fault();
        x.put(0, 0, 0);
        x.days(0, 0, 0, 0, 0);
        met[c++] = x.fault();
        x.put(0, 0, 0);
        x.damp(9, 0, 0, 0, 0, 0, 0);
        met[c++] = x.fault();
        x.put(0, 0, 0);
        x.rings(9, 0, 0, 0, 0);
        met[c++] = x.fault();
        x.put(0, 0, 0);
        x.oak(9, 0, 0, 0, 0);
        met[c++] = x.fault();
        x.put(0, 0, 0);
        x.contract(9, 0, 0, 0);
        met[c++] = x.fault();
        x.put(0, 0, 0);
        x.sheet(9, 0, 0);
        met[c++] = x.fault();
        x.put(0, 0, 0);
        x.put(9, 0, 0);
        met[c++] = x.fault();
        x.put(0, 0, 0);
        x.at(9, 0, 0);
        met[c++] = x.fault();
        x.put(0, 0, 0);
        x.as(9, 0);
        met[c++] = x.fault();
        for (int k = 0; k < c; k++) {
            due.is(49, "refused calls that name faults: " + k, met[k], 0);
        }
    }

    private static void many() {
        LentFiddles x = new LentFiddles();
        x.violin(0, 0, 1);
        for (int n = 0; n < 2; n++) {
            x.player(n);
        }
        x.trial(0, 0, 1);
        x.lend(0, 0, 0, 0);
        for (int n = 0; n < 4; n++) {
            x.look(0, n, 0);
        }
        for (int n = 0; n < 5; n++) {
            x.holder(0, n, 1500, 1500);
        }
        for (int n = 0; n < 6; n++) {
            x.trip(0, n, 0);
        }
        Due.fill(x, 0, 0, 1, 1, 1, 1, 1, 1, 1);
        x.oak(0, 0, 0, 7, 0);
        Due.write(x, 0, "A1;B1;Y1");
        x.contract(0, 0, 0, 8);
        int[] want = {1, 2, 1, 4, 5, 6, 7, 3, Due.OUTSIDE};
        for (int what = 0; what < want.length; what++) {
            due.is(50, "many(" + what + ")", x.many(what), want[what]);
        }
        due.is(50, "outside", x.many(-1), Due.OUTSIDE);
    }
}
