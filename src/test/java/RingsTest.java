/** Promises 34 to 40: rings, the oak, dates, one tree, the contract. */
public final class RingsTest {
    private static final Due due = new Due();

    public static void main(String[] args) {
        rings();
        ringsRefused();
        oak();
        oakRefused();
        laid();
        laidOutside();
        best();
        bestOfSeveral();
        oneTree();
        contracts();
        contractPlaces();
        contractRefused();
        due.end();
    }

    private static LentFiddles ofTwo() {
        LentFiddles x = new LentFiddles();
        x.violin(0, 0, 1);
        x.violin(0, 0, 1);
        return x;
    }

    private static void ring(LentFiddles x, int v, int... widths) {
        Due.fill(x, 0, 1, widths);
        due.is(34, "rings", x.rings(v, 0, 1, 0, widths.length), widths.length);
    }

    private static void grow(LentFiddles x, int start, int... widths) {
        Due.fill(x, 0, 2, widths);
        due.is(35, "oak", x.oak(0, 2, 0, widths.length, start), widths.length);
    }

    private static void rings() {
        LentFiddles x = ofTwo();
        Due.fill(x, 0, 1, 0, 1, 255, 7, 256);
        due.is(34, "some cells", x.rings(0, 0, 1, 1, 3), 3);
        due.is(34, "so many", x.ofViolin(0, 3), 3);
        due.is(34, "others have theirs", x.ofViolin(1, 3), 0);
        due.is(34, "none", x.rings(0, 0, 1, 5, 0), 0);
        due.is(34, "so many", x.ofViolin(0, 3), 0);
        x.sheet(0, 1, 20);
        for (int i = 0; i < 20; i++) {
            x.put(0, i, 5);
        }
        due.is(34, "twenty", x.rings(1, 0, 1, 0, 20), 20);
        x.put(0, 0, 9);
        x.lose(0);
        due.is(34, "they stay without the sheet", x.ofViolin(1, 3), 20);
        due.is(34, "in its place", fewer(x), 2);
    }

    private static int fewer(LentFiddles x) {
        ring(x, 1, 3, 4);
        return x.ofViolin(1, 3);
    }

    private static void ringsRefused() {
        LentFiddles x = ofTwo();
        ring(x, 0, 1, 2, 3);
        Due.fill(x, 0, 0, 5, 0, 127, -1);
        isRefused(x, 2, 0, 3, 0, 1, Due.UNKNOWN);
        isRefused(x, -1, 0, 0, 0, 1, Due.UNKNOWN);
        isRefused(x, 0, 4, 3, 0, 1, Due.UNKNOWN);
        isRefused(x, 0, -1, 3, 0, 1, Due.UNKNOWN);
        isRefused(x, 0, 0, 3, 0, 1, Due.OUTSIDE);
        isRefused(x, 0, 0, -1, 0, 1, Due.OUTSIDE);
        isRefused(x, 0, 0, 1, 9, -1, Due.CAST);
        isRefused(x, 0, 1, 1, 9, -1, Due.NULL);
        isRefused(x, 0, 0, 0, 9, -1, Due.SIZE);
        isRefused(x, 0, 0, 0, 0, 5, Due.INDEX);
        isRefused(x, 0, 0, 0, -1, 1, Due.INDEX);
        isRefused(x, 0, 0, 0, 5, 0, Due.INDEX);
        isRefused(x, 0, 0, 0, 0, 2, Due.OUTSIDE);
        isRefused(x, 0, 0, 0, 2, 2, Due.OUTSIDE);
        x.sheet(1, 1, 60);
        for (int i = 0; i < 60; i++) {
            x.put(1, i, 9);
        }
        isRefused(x, 0, 1, 1, 0, 21, Due.OUTSIDE);
        isRefused(x, 0, 1, 1, 0, 60, Due.OUTSIDE);
        isRefused(x, 0, 1, 1, 0, 61, Due.INDEX);
        x.put(1, 3, 256);
        isRefused(x, 0, 1, 1, 0, 4, Due.OUTSIDE);
        due.is(34, "up to there", x.rings(0, 1, 1, 0, 3), 3);
    }

    private static void isRefused(LentFiddles x, int v, int sheet, int lane, int i, int n, int want) {
        int wantFault = want <= -11 ? -10 - want : 0;
        due.is(34, "rings refused", x.rings(v, sheet, lane, i, n), want);
        due.is(49, "its fault", x.fault(), wantFault);
        due.is(34, "nothing has changed", x.ofViolin(0, 3), 3);
    }

    private static void oak() {
        LentFiddles x = ofTwo();
        Due.fill(x, 0, 1, 0, 1, 255, 7, 256);
        due.is(35, "some cells", x.oak(0, 1, 1, 3, 0), 3);
        due.is(35, "so many", x.many(6), 3);
        due.is(35, "none", x.oak(0, 1, 5, 0, 2100), 0);
        due.is(35, "so many", x.many(6), 0);
        int[] sixty = new int[60];
        java.util.Arrays.fill(sixty, 7);
        grow(x, 1700, sixty);
        due.is(35, "so many", x.many(6), 60);
    }

    private static void oakRefused() {
        LentFiddles x = ofTwo();
        grow(x, 1700, 1, 2, 3);
        Due.fill(x, 0, 0, 5, 0, 127, -1);
        isOakRefused(x, 4, 0, 0, 1, -1, Due.UNKNOWN);
        isOakRefused(x, -1, 3, 0, 1, 0, Due.UNKNOWN);
        isOakRefused(x, 0, 3, 0, 1, 0, Due.OUTSIDE);
        isOakRefused(x, 0, 1, 0, 1, -1, Due.OUTSIDE);
        isOakRefused(x, 0, 0, 0, 9, 2101, Due.OUTSIDE);
        isOakRefused(x, 0, 1, 9, -1, 0, Due.CAST);
        isOakRefused(x, 2, 1, 9, -1, 0, Due.NULL);
        isOakRefused(x, 0, 0, 9, -1, 0, Due.SIZE);
        isOakRefused(x, 0, 0, 2, 3, 0, Due.INDEX);
        isOakRefused(x, 0, 0, 5, 0, 0, Due.INDEX);
        isOakRefused(x, 0, 0, 0, 2, 0, Due.OUTSIDE);
        isOakRefused(x, 0, 0, 2, 2, 0, Due.OUTSIDE);
        Due.fill(x, 0, 2, 256);
        isOakRefused(x, 0, 2, 0, 1, 0, Due.OUTSIDE);
    }

    private static void isOakRefused(LentFiddles x, int sheet, int lane, int i, int n, int start, int want) {
        due.is(35, "oak refused", x.oak(sheet, lane, i, n, start), want);
        due.is(49, "its fault", x.fault(), want <= -11 ? -10 - want : 0);
        due.is(35, "nothing has changed", x.many(6), 3);
    }

    private static void isLaid(LentFiddles x, int k, long match, long steps) {
        due.is(36, "match at " + k, x.laid(0, k, 0), match);
        due.is(36, "steps at " + k, x.laid(0, k, 1), steps);
    }

    private static void laid() {
        LentFiddles x = ofTwo();
        ring(x, 0, 10, 20, 20, 5);
        grow(x, 1700, 1, 2, 2, 1, 3, 3);
        isLaid(x, -3, 0, 0);
        isLaid(x, -2, -1, 1);
        isLaid(x, -1, -2, 2);
        isLaid(x, 0, 3, 3);
        isLaid(x, 1, -3, 3);
        isLaid(x, 2, -3, 3);
        isLaid(x, 3, 2, 2);
        isLaid(x, 4, -1, 1);
        isLaid(x, 5, 0, 0);
        ring(x, 0, 9);
        isLaid(x, 0, 0, 0);
        grow(x, 1700, 1);
        isLaid(x, 0, 0, 0);
        ring(x, 0, 1, 1, 1);
        grow(x, 1700, 1, 1);
        isLaid(x, -1, 1, 1);
        isLaid(x, 0, 1, 1);
    }

    private static void laidOutside() {
        LentFiddles x = ofTwo();
        due.is(36, "no rings at all", x.laid(0, 0, 0), Due.LOST);
        ring(x, 0, 10, 20, 20, 5);
        due.is(36, "no oak", x.laid(0, 0, 0), Due.LOST);
        due.is(36, "no oak, k below", x.laid(0, -1, 0), Due.LOST);
        grow(x, 1700, 1, 2, 2, 1, 3, 3);
        int[] outside = {-4, 6, Due.LEAST, Due.MOST};
        for (int k : outside) {
            due.is(36, "k " + k, x.laid(0, k, 0), Due.LOST);
            due.is(36, "k " + k, x.laid(0, k, 1), Due.LOST);
        }
        due.is(36, "what", x.laid(0, 0, 2), Due.LOST);
        due.is(36, "what", x.laid(0, 0, -1), Due.LOST);
        due.is(36, "no rings", x.laid(1, 0, 0), Due.LOST);
        due.is(36, "no rings, k below the oak's", x.laid(1, 1, 0), Due.LOST);
        due.is(36, "no violin", x.laid(2, 0, 0), Due.LOST);
        due.is(36, "no violin", x.laid(-1, 0, 0), Due.LOST);
    }

    private static void isBest(LentFiddles x, long k, long match, long year) {
        due.is(37, "best k", x.best(0, 0), k);
        due.is(37, "best match", x.best(0, 1), match);
        due.is(37, "best year", x.best(0, 2), year);
    }

    private static void best() {
        LentFiddles x = ofTwo();
        isBest(x, Due.LOST, Due.LOST, Due.LOST);
        ring(x, 0, 1, 2, 1, 2, 1);
        isBest(x, Due.LOST, Due.LOST, Due.LOST);
        grow(x, 1700, 1, 2, 1, 2, 1, 2, 1, 2);
        isBest(x, Due.LOST, Due.LOST, Due.LOST);
        ring(x, 0, 1, 2, 1, 2, 1, 2);
        isBest(x, 0, 5, 1705);
        ring(x, 0, 2, 1, 2, 1, 2, 1);
        isBest(x, 1, 5, 1706);
        grow(x, 0, 9, 9, 9, 9, 9, 9);
        isBest(x, 0, -5, 5);
        grow(x, 2100, 2, 1, 2, 1, 2);
        isBest(x, Due.LOST, Due.LOST, Due.LOST);
        ring(x, 0, 7, 7, 7, 2, 1, 2, 1, 2, 1);
        grow(x, 2100, 2, 1, 2, 1, 2, 1, 9, 9, 9);
        isBest(x, -3, 5, 2105);
        due.is(37, "what", x.best(0, 3), Due.LOST);
        due.is(37, "what", x.best(0, -1), Due.LOST);
        due.is(37, "another has none", x.best(1, 0), Due.LOST);
        due.is(37, "no violin", x.best(2, 0), Due.LOST);
        due.is(37, "no violin", x.best(-1, 0), Due.LOST);
    }

    private static void bestOfSeveral() {
        LentFiddles x = ofTwo();
        ring(x, 0, 1, 1, 1, 1, 1, 1);
        grow(x, 1000, 4, 4, 4, 4, 4, 4, 4, 4, 4);
        isBest(x, 0, 5, 1005);
        ring(x, 0, 1, 1, 1, 1, 1, 1, 1);
        isBest(x, 0, 6, 1006);
        grow(x, 1000, 4, 4, 4, 4, 4, 4);
        isBest(x, -1, 5, 1005);
        grow(x, 1000, 4, 4, 4, 4, 4, 4, 3);
        isBest(x, -1, 5, 1005);
    }

    private static void oneTree() {
        LentFiddles x = ofTwo();
        x.violin(0, 0, 1);
        isTree(x, 0);
        ring(x, 0, 10, 20, 15, 15, 30, 5);
        isTree(x, 0);
        ring(x, 1, 1, 2, 1, 1, 2);
        isTree(x, 0);
        ring(x, 1, 1, 2, 1, 1, 2, 1);
        isTree(x, 1);
        ring(x, 1, 1, 2, 1, 1, 2, 2);
        isTree(x, 0);
        ring(x, 1, 9, 9, 1, 2, 1, 1, 2, 1, 9);
        isTree(x, 1);
        ring(x, 1, 9, 9, 1, 2, 1, 1, 2);
        isTree(x, 0);
        ring(x, 0, 8, 10, 20, 15, 15, 30, 5);
        ring(x, 1, 1, 2, 1, 1, 2, 1, 7, 7, 7, 7, 7);
        isTree(x, 1);
        due.is(38, "both are one", x.oneTree(0, 0), Due.STATE);
        due.is(38, "both are one", x.oneTree(2, 2), Due.STATE);
        due.is(38, "no violin", x.oneTree(3, 3), Due.UNKNOWN);
        due.is(38, "no violin", x.oneTree(0, 3), Due.UNKNOWN);
        due.is(38, "no violin", x.oneTree(-1, 0), Due.UNKNOWN);
        due.is(38, "without rings", x.oneTree(0, 2), 0);
    }

    private static void isTree(LentFiddles x, int want) {
        due.is(38, "one tree", x.oneTree(0, 1), want);
        due.is(38, "one tree, the other way", x.oneTree(1, 0), want);
    }

    private static void isRead(LentFiddles x, String text, int a, int b, int h, int y) {
        Due.write(x, 0, text);
        int[] want = {a, b, h, y};
        int count = 0;
        for (int letter = 0; letter < 4; letter++) {
            count += want[letter] == Due.NONE ? 0 : 1;
        }
        due.is(39, "contract " + text, x.contract(0, 0, 0, text.length()), count);
        due.is(39, "clauses of " + text, x.many(7), count);
        for (int letter = 0; letter < 4; letter++) {
            due.is(40, "clause " + letter + " of " + text, x.clause(letter), want[letter]);
        }
    }

    private static void contracts() {
        LentFiddles x = new LentFiddles();
        isRead(x, "A0", 0, -9, -9, -9);
        isRead(x, "Y999;A1", 1, -9, -9, 999);
        isRead(x, "B10;H20", -9, 10, 20, -9);
        isRead(x, "H100;Y0;B3;A77", 77, 3, 100, 0);
        isRead(x, "", -9, -9, -9, -9);
        isRead(x, "B909", -9, 909, -9, -9);
        Due.write(x, 0, "xA5;B6y");
        due.is(39, "cells from i on", x.contract(0, 0, 1, 5), 2);
        due.is(39, "fewer cells", x.contract(0, 0, 1, 2), 1);
        due.is(40, "clause", x.clause(0), 5);
        due.is(40, "clause", x.clause(1), Due.NONE);
        due.is(40, "no letter", x.clause(4), Due.UNKNOWN);
        due.is(40, "no letter", x.clause(-1), Due.UNKNOWN);
        due.is(39, "no cells", x.contract(0, 0, 7, 0), 0);
    }

    private static void isPlace(LentFiddles x, String text, int place) {
        Due.write(x, 0, text);
        due.is(39, "place in " + text, x.contract(0, 0, 0, text.length()), -100 - place);
        due.is(49, "no fault", x.fault(), 0);
        due.is(39, "nothing has changed", x.many(7), 2);
        due.is(40, "nothing has changed", x.clause(1), 12);
        due.is(40, "nothing has changed", x.clause(0), Due.NONE);
        due.is(40, "nothing has changed", x.clause(3), 3);
    }

    private static void contractPlaces() {
        LentFiddles x = new LentFiddles();
        isRead(x, "B12;Y3", -9, 12, -9, 3);
        isPlace(x, "A", 1);
        isPlace(x, "a1", 0);
        isPlace(x, "1", 0);
        isPlace(x, ";", 0);
        isPlace(x, " A1", 0);
        isPlace(x, "A;", 1);
        isPlace(x, "AB1", 1);
        isPlace(x, "A1;", 3);
        isPlace(x, "A1;B", 4);
        isPlace(x, "A1;;B1", 3);
        isPlace(x, "A1B1", 2);
        isPlace(x, "A1;A2", 3);
        isPlace(x, "A1;H2;A", 6);
        isPlace(x, "A01", 2);
        isPlace(x, "A00", 2);
        isPlace(x, "A1234", 4);
        isPlace(x, "A-1", 1);
        isPlace(x, "A1/", 2);
        isPlace(x, "A1:", 2);
        isPlace(x, "A1;B1;H1;Y1;", 11);
        isPlace(x, "A1;B1;H1;Y1;A1", 11);
        isPlace(x, "A1;B1;H1;Y", 10);
        isPlace(x, "A1;C1", 3);
        Due.fill(x, 0, 2, 65 + 256, 49);
        due.is(39, "a sign that is none", x.contract(0, 2, 0, 2), -100);
        Due.fill(x, 0, 2, 65, 49, 59 - 256);
        due.is(39, "a sign that is none", x.contract(0, 2, 0, 3), -102);
        due.is(39, "nothing has changed", x.many(7), 2);
    }

    private static void contractRefused() {
        LentFiddles x = new LentFiddles();
        isRead(x, "B12;Y3", -9, 12, -9, 3);
        int[][] calls = {{4, 9, 0, 1, Due.UNKNOWN}, {-1, 0, 0, 1, Due.UNKNOWN}, {1, 3, 0, 1, Due.OUTSIDE},
            {1, -1, 0, 1, Due.OUTSIDE}, {0, 1, 9, -1, Due.CAST}, {1, 1, 9, -1, Due.NULL}, {0, 0, 9, -1, Due.SIZE},
            {0, 0, 0, 7, Due.INDEX}, {0, 0, 7, 0, Due.INDEX}, {0, 0, -1, 1, Due.INDEX},
            {0, 0, Due.LEAST, Due.MOST, Due.INDEX}};
        for (int[] c : calls) {
            due.is(39, "contract refused", x.contract(c[0], c[1], c[2], c[3]), c[4]);
            due.is(49, "its fault", x.fault(), c[4] <= -11 ? -10 - c[4] : 0);
            due.is(39, "nothing has changed", x.clause(1), 12);
        }
    }
}
