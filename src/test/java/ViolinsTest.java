/** Promises 1 to 12: a new object, violins, players, lendings. */
public final class ViolinsTest {
    private static final Due due = new Due();

    public static void main(String[] args) {
        constants();
        newObject();
        violins();
        players();
        trials();
        hadMakers();
        mayHave();
        ofViolins();
        ofPlayers();
        bestLending();
        bestOfSeveral();
        noneBehindNine();
        earlierPlayerFirst();
        calmOne();
        quarrels();
        quarrelRefusals();
        quarrelsOfTen();
        due.end();
    }

    private static void constants() {
        due.is(1, "UNKNOWN", LentFiddles.UNKNOWN, -1);
        due.is(1, "OUTSIDE", LentFiddles.OUTSIDE, -2);
        due.is(1, "STATE", LentFiddles.STATE, -3);
        due.is(1, "FULL", LentFiddles.FULL, -4);
        due.is(1, "NONE", LentFiddles.NONE, -9);
        due.is(1, "LOST", LentFiddles.LOST, Long.MIN_VALUE);
    }

    private static void newObject() {
        LentFiddles x = new LentFiddles();
        for (int what = 0; what < 8; what++) {
            due.is(1, "many of a new one", x.many(what), 0);
        }
        for (int letter = 0; letter < 4; letter++) {
            due.is(1, "clause of a new one", x.clause(letter), Due.NONE);
        }
        for (int k = 0; k < 4; k++) {
            due.is(1, "lose of a new one", x.lose(k), 0);
        }
        due.is(1, "trace of a new one", x.trace(), 0);
        due.is(1, "fault of a new one", x.fault(), 0);
        due.is(1, "limit of a new one", x.limit(5), 1000000);
        due.is(1, "sum of a new one", x.sum(), 0);
        due.is(1, "ofViolin", x.ofViolin(0, 0), Due.UNKNOWN);
        due.is(1, "ofPlayer", x.ofPlayer(0, 0), Due.UNKNOWN);
        due.is(1, "loan", x.loan(0, 0), Due.UNKNOWN);
        due.is(1, "plane", x.plane(0), Due.UNKNOWN);
    }

    private static void violins() {
        LentFiddles x = new LentFiddles();
        int[][] outside = {{-1, 0, 1}, {3, 0, 1}, {0, -1, 1}, {0, 10, 1}, {0, 0, 0}, {0, 0, 1000001},
            {0, 0, -5}, {Due.LEAST, 0, 1}, {0, Due.MOST, 1}, {0, 0, Due.MOST}};
        for (int[] o : outside) {
            due.is(2, "violin outside", x.violin(o[0], o[1], o[2]), Due.OUTSIDE);
        }
        due.is(2, "none came of those", x.many(0), 0);
        for (int v = 0; v < 10; v++) {
            due.is(2, "violin", x.violin(v % 3, v, v == 0 ? 1 : v * 100000 + 100000), v);
        }
        due.is(2, "the eleventh", x.violin(0, 0, 1), Due.FULL);
        due.is(2, "outside ahead of full", x.violin(3, 0, 1), Due.OUTSIDE);
        due.is(2, "ten", x.many(0), 10);
        due.is(2, "the greatest worth", x.ofViolin(9, 2), 1000000);
    }

    private static void players() {
        LentFiddles x = new LentFiddles();
        int[] outside = {-1, 100, Due.LEAST, Due.MOST};
        for (int rank : outside) {
            due.is(3, "player outside", x.player(rank), Due.OUTSIDE);
        }
        due.is(3, "none came of those", x.many(1), 0);
        for (int p = 0; p < 10; p++) {
            due.is(3, "player", x.player(p * 11), p);
        }
        due.is(3, "the eleventh", x.player(0), Due.FULL);
        due.is(3, "outside ahead of full", x.player(100), Due.OUTSIDE);
        due.is(3, "ten", x.many(1), 10);
        due.is(3, "the greatest rank", x.ofPlayer(9, 0), 99);
    }

    private static void trials() {
        LentFiddles x = new LentFiddles();
        x.violin(0, 0, 1);
        x.player(0);
        due.is(4, "was none", x.trial(0, 0, 99), 0);
        due.is(4, "was 99", x.trial(0, 0, 7), 99);
        due.is(4, "outside", x.trial(0, 0, 100), Due.OUTSIDE);
        due.is(4, "outside", x.trial(0, 0, -1), Due.OUTSIDE);
        due.is(4, "is still 7", x.trial(0, 0, 0), 7);
        due.is(4, "is none again", x.may(0, 0), 0);
        due.is(4, "no player", x.trial(1, 0, 100), Due.UNKNOWN);
        due.is(4, "no violin", x.trial(0, 1, 100), Due.UNKNOWN);
        due.is(4, "below", x.trial(-1, 0, 1), Due.UNKNOWN);
        due.is(4, "below", x.trial(0, -1, 1), Due.UNKNOWN);
    }

    private static void hadMakers() {
        LentFiddles x = new LentFiddles();
        x.violin(0, 4, 1);
        x.player(0);
        due.is(5, "was told so", x.had(0, 4, false), 0);
        due.is(5, "is told", x.had(0, 4, true), 1);
        due.is(5, "was told so", x.had(0, 4, true), 0);
        due.is(5, "another", x.had(0, 9, true), 1);
        due.is(5, "the set", x.ofPlayer(0, 1), 1 << 4 | 1 << 9);
        due.is(5, "is told not", x.had(0, 4, false), 1);
        due.is(5, "the set", x.ofPlayer(0, 1), 1 << 9);
        due.is(5, "outside", x.had(0, 10, true), Due.OUTSIDE);
        due.is(5, "outside", x.had(0, -1, true), Due.OUTSIDE);
        due.is(5, "outside, a shift that wraps", x.had(0, 32, true), Due.OUTSIDE);
        due.is(5, "no player", x.had(1, 10, true), Due.UNKNOWN);
        x.trial(0, 0, 1);
        x.lend(0, 0, 0, 0);
        due.is(5, "a loan counts", x.ofPlayer(0, 1), 1 << 4 | 1 << 9);
        due.is(5, "a loan is not told", x.had(0, 4, false), 0);
        due.is(5, "told as well", x.had(0, 4, true), 1);
        due.is(5, "told no more", x.had(0, 4, false), 1);
        due.is(5, "the loan counts all the same", x.ofPlayer(0, 1), 1 << 4 | 1 << 9);
        due.is(5, "so he may not", x.may(0, 0), 0);
    }

    private static void mayHave() {
        LentFiddles x = new LentFiddles();
        x.violin(0, 4, 1);
        x.violin(0, 4, 1);
        x.player(0);
        x.player(0);
        due.is(6, "no trial", x.may(0, 0), 0);
        x.trial(0, 0, 1);
        due.is(6, "a trial", x.may(0, 0), 1);
        due.is(6, "on that one alone", x.may(0, 1), 0);
        due.is(6, "of that one alone", x.may(1, 0), 0);
        x.had(0, 4, true);
        due.is(6, "had its maker", x.may(0, 0), 0);
        x.had(0, 4, false);
        x.had(0, 5, true);
        due.is(6, "had another maker", x.may(0, 0), 1);
        due.is(6, "no player", x.may(2, 0), Due.UNKNOWN);
        due.is(6, "no violin", x.may(0, 2), Due.UNKNOWN);
        due.is(6, "below", x.may(-1, 0), Due.UNKNOWN);
        due.is(6, "below", x.may(0, Due.LEAST), Due.UNKNOWN);
    }

    private static void ofViolins() {
        LentFiddles x = new LentFiddles();
        x.violin(2, 7, 12345);
        x.violin(1, 3, 5);
        x.player(1);
        x.trial(0, 0, 1);
        x.lend(0, 0, 1, 2);
        x.look(0, 1, 0);
        x.look(0, 2, 0);
        x.look(1, 2, 0);
        x.holder(0, 1, 1500, 1500);
        x.holder(0, 1, 1500, 1500);
        x.holder(0, 1, 1500, 1500);
        x.trip(0, 1, 0);
        x.trip(0, 2, 0);
        x.trip(0, 3, 0);
        x.trip(0, 4, -1);
        x.trip(1, 4, -1);
        Due.fill(x, 0, 0, 1, 2, 3, 4, 5);
        x.rings(0, 0, 0, 0, 5);
        int[] want = {2, 7, 12345, 5, 1, 2, 3, 4, Due.OUTSIDE};
        for (int what = 0; what < want.length; what++) {
            due.is(7, "ofViolin(0, " + what + ")", x.ofViolin(0, what), want[what]);
        }
        int[] wantOther = {1, 3, 5, 0, 0, 1, 0, 1, Due.OUTSIDE};
        for (int what = 0; what < wantOther.length; what++) {
            due.is(7, "ofViolin(1, " + what + ")", x.ofViolin(1, what), wantOther[what]);
        }
        due.is(7, "below", x.ofViolin(0, -1), Due.OUTSIDE);
        due.is(7, "no violin", x.ofViolin(2, -1), Due.UNKNOWN);
        due.is(7, "no violin", x.ofViolin(-1, 0), Due.UNKNOWN);
    }

    private static void ofPlayers() {
        LentFiddles x = new LentFiddles();
        x.player(33);
        x.player(2);
        for (int v = 0; v < 10; v++) {
            x.violin(0, v, 1);
            x.trial(0, v, v % 3);
        }
        due.is(8, "rank", x.ofPlayer(0, 0), 33);
        due.is(8, "had", x.ofPlayer(0, 1), 0);
        due.is(8, "may", x.ofPlayer(0, 2), 0b0110110110);
        due.is(8, "loans", x.ofPlayer(0, 3), 0);
        x.lend(0, 1, 0, 0);
        x.lend(0, 8, 1, 1);
        due.is(8, "had", x.ofPlayer(0, 1), 0b0100000010);
        due.is(8, "may", x.ofPlayer(0, 2), 0b0010110100);
        due.is(8, "loans", x.ofPlayer(0, 3), 2);
        due.is(8, "loans of another", x.ofPlayer(1, 3), 0);
        due.is(8, "outside", x.ofPlayer(0, 4), Due.OUTSIDE);
        due.is(8, "outside", x.ofPlayer(0, -1), Due.OUTSIDE);
        due.is(8, "unknown", x.ofPlayer(2, 4), Due.UNKNOWN);
        due.is(8, "unknown", x.ofPlayer(-1, 0), Due.UNKNOWN);
    }

    private static LentFiddles withTrials(int[][] trials) {
        LentFiddles x = new LentFiddles();
        for (int v = 0; v < trials[0].length; v++) {
            x.violin(0, v, 1);
        }
        for (int p = 0; p < trials.length; p++) {
            x.player(0);
            for (int v = 0; v < trials[p].length; v++) {
                x.trial(p, v, trials[p][v]);
            }
        }
        return x;
    }

    private static void isRow(int promise, LentFiddles x, int which, int... row) {
        for (int p = 0; p < row.length; p++) {
            due.is(promise, "lent(" + p + ", " + which + ")", x.lent(p, which), row[p]);
        }
    }

    private static void bestLending() {
        LentFiddles x = withTrials(new int[][] {{9, 8}, {9, 1}});
        due.is(9, "not the greedy one", x.sum(), 17);
        isRow(10, x, 0, 1, 0);
        x.had(0, 1, true);
        due.is(9, "who may not have it", x.sum(), 10);
        isRow(10, x, 0, 0, 1);
        x.had(0, 0, true);
        due.is(9, "one who may have none", x.sum(), 9);
        isRow(10, x, 0, Due.NONE, 0);
        LentFiddles y = withTrials(new int[][] {{99, 99, 99}, {0, 0, 0}, {99, 0, 0}, {98, 0, 0}});
        due.is(9, "more players than violins", y.sum(), 198);
        isRow(10, y, 0, 1, Due.NONE, 0, Due.NONE);
        due.is(10, "no player", y.lent(4, 0), Due.UNKNOWN);
        due.is(10, "no player ahead of which", y.lent(-1, 2), Due.UNKNOWN);
        due.is(10, "outside", y.lent(0, 2), Due.OUTSIDE);
        due.is(10, "outside", y.lent(0, -1), Due.OUTSIDE);
    }

    private static void bestOfSeveral() {
        LentFiddles x = withTrials(new int[][] {{5, 5, 5}, {5, 5, 5}, {5, 5, 5}});
        due.is(9, "like all", x.sum(), 15);
        isRow(10, x, 0, 0, 1, 2);
        LentFiddles y = withTrials(new int[][] {{5}, {5}, {5}});
        isRow(10, y, 0, 0, Due.NONE, Due.NONE);
        LentFiddles z = withTrials(new int[][] {{0, 5, 3}, {5, 7, 5}, {4, 6, 0}});
        due.is(9, "several of 14", z.sum(), 14);
        isRow(10, z, 0, 1, 2, 0);
        LentFiddles n = withTrials(new int[][] {{5, 3}, {2, 0}});
        due.is(9, "one for one, or two for two", n.sum(), 5);
        isRow(10, n, 0, 0, Due.NONE);
        lastViolin();
        LentFiddles w = withTrials(new int[10][10]);
        due.is(9, "nobody may", w.sum(), 0);
        isRow(10, w, 0, -9, -9, -9, -9, -9, -9, -9, -9, -9, -9);
        int[][] full = new int[10][10];
        for (int[] row : full) {
            java.util.Arrays.fill(row, 99);
        }
        LentFiddles f = withTrials(full);
        due.is(9, "the greatest sum", f.sum(), 990);
        isRow(10, f, 0, 0, 1, 2, 3, 4, 5, 6, 7, 8, 9);
    }

    /** None is behind the last of ten violins, too. */
    private static void lastViolin() {
        int[][] trials = new int[4][10];
        for (int[] row : trials) {
            row[9] = 5;
        }
        isRow(10, withTrials(trials), 0, 9, Due.NONE, Due.NONE, Due.NONE);
        trials[0][9] = 4;
        isRow(10, withTrials(trials), 0, Due.NONE, 9, Due.NONE, Due.NONE);
        trials[3][8] = 1;
        isRow(10, withTrials(trials), 0, Due.NONE, 9, Due.NONE, 8);
    }

    /** None is behind violin 9, also where another player's lower number would make up for that. */
    private static void noneBehindNine() {
        int[][] trials = new int[3][10];
        trials[0][9] = 5;
        trials[1][0] = 4;
        trials[2][0] = 6;
        trials[2][9] = 7;
        LentFiddles x = withTrials(trials);
        due.is(9, "two of 11", x.sum(), 11);
        isRow(10, x, 0, 9, Due.NONE, 0);
        trials[2][9] = 8;
        isRow(10, withTrials(trials), 0, Due.NONE, 0, 9);
    }

    /** Of like sums the earlier player's lower number counts, whatever later ones have then, for each two of ten. */
    private static void earlierPlayerFirst() {
        for (int p = 0; p < 10; p++) {
            for (int q = p + 1; q < 10; q++) {
                for (int v = 0; v < 9; v++) {
                    int[][] trials = new int[10][10];
                    trials[p][v] = 9;
                    trials[p][v + 1] = 4;
                    trials[q][v] = 5;
                    LentFiddles x = withTrials(trials);
                    due.is(9, "two of 9", x.sum(), 9);
                    due.is(10, "the earlier one", x.lent(p, 0), v);
                    due.is(10, "the later one", x.lent(q, 0), Due.NONE);
                    x.trial(q, v, 6);
                    due.is(9, "one of 10", x.sum(), 10);
                    due.is(10, "the earlier one", x.lent(p, 0), v + 1);
                    due.is(10, "the later one", x.lent(q, 0), v);
                }
            }
        }
    }

    private static void calmOne() {
        LentFiddles x = new LentFiddles();
        x.violin(0, 0, 1);
        x.violin(0, 1, 1);
        x.violin(0, 2, 1);
        x.player(5);
        x.player(9);
        x.player(5);
        for (int p = 0; p < 3; p++) {
            x.trial(p, 0, 10);
            x.trial(p, 1, 20);
            x.trial(p, 2, 20);
        }
        isRow(10, x, 1, 2, 1, 0);
        x.trial(2, 0, 0);
        isRow(10, x, 1, 2, 1, Due.NONE);
        x.had(1, 1, true);
        isRow(10, x, 1, 1, 2, Due.NONE);
        x.trial(1, 0, 50);
        isRow(10, x, 1, 1, 0, 2);
        due.is(10, "no player", x.lent(3, 1), Due.UNKNOWN);
    }

    private static LentFiddles quarrelling() {
        LentFiddles x = new LentFiddles();
        for (int v = 0; v < 3; v++) {
            x.violin(0, v, 1);
        }
        x.player(5);
        x.player(9);
        x.player(5);
        int[][] trials = {{3, 4, 4}, {2, 2, 0}, {9, 1, 1}};
        for (int p = 0; p < 3; p++) {
            for (int v = 0; v < 3; v++) {
                x.trial(p, v, trials[p][v]);
            }
        }
        return x;
    }

    private static void isQuarrels(LentFiddles x, int... codes) {
        due.is(11, "quarrels", x.quarrels(0, 0, 0), codes.length);
        for (int n = 0; n < codes.length; n++) {
            due.is(12, "quarrel " + n, x.quarrel(0, 0, 0, n), codes[n]);
        }
        due.is(12, "quarrel behind the last", x.quarrel(0, 0, 0, codes.length), Due.UNKNOWN);
        due.is(12, "quarrel far behind", x.quarrel(0, 0, 0, Due.MOST), Due.UNKNOWN);
        due.is(49, "no fault", x.fault(), 0);
    }

    private static void quarrels() {
        LentFiddles x = quarrelling();
        Due.fill(x, 0, 0, -1, -1, -1);
        isQuarrels(x, 0, 1, 2, 10, 11, 20, 21, 22);
        Due.fill(x, 0, 0, 0, 1, 2);
        isQuarrels(x, 2);
        Due.fill(x, 0, 0, 1, -1, 0);
        isQuarrels(x, 10, 11);
        Due.fill(x, 0, 0, -1, 1, 2);
        isQuarrels(x, 0, 2, 20);
        Due.fill(x, 0, 0, 1, 0, 2);
        isQuarrels(x);
        LentFiddles none = new LentFiddles();
        none.sheet(0, 0, 0);
        due.is(11, "nobody, no cells", none.quarrels(0, 0, 0), 0);
        due.is(11, "nobody, no such place", none.quarrels(0, 0, 1), Due.INDEX);
        due.is(12, "nobody", none.quarrel(0, 0, 0, 0), Due.UNKNOWN);
    }

    private static void quarrelRefusals() {
        LentFiddles x = quarrelling();
        isRefused(x, 4, 0, 0, Due.UNKNOWN);
        isRefused(x, -1, 9, 0, Due.UNKNOWN);
        isRefused(x, 0, 3, 0, Due.OUTSIDE);
        isRefused(x, 0, -1, 0, Due.OUTSIDE);
        isRefused(x, 0, 0, 0, Due.NULL);
        Due.fill(x, 0, 1, 7, 0, 1, 2);
        isRefused(x, 0, 0, 9, Due.CAST);
        isRefused(x, 0, 1, -1, Due.INDEX);
        isRefused(x, 0, 1, 2, Due.INDEX);
        isRefused(x, 0, 1, Due.MOST, Due.INDEX);
        isRefused(x, 0, 1, Due.LEAST, Due.INDEX);
        isRefused(x, 0, 1, 0, Due.OUTSIDE);
        due.is(11, "from the second cell on", x.quarrels(0, 1, 1), 1);
        int[][] noLendings = {{-2, -1, -1}, {3, -1, -1}, {0, 0, -1}, {-1, 2, -1}, {-1, -1, Due.MOST}};
        for (int[] row : noLendings) {
            Due.fill(x, 0, 2, row);
            isRefused(x, 0, 2, 0, Due.OUTSIDE);
        }
        due.is(12, "n is below 0 ahead of a lane", x.quarrel(0, 9, 0, -1), Due.UNKNOWN);
        due.is(12, "n is below 0 ahead of faults", x.quarrel(1, 0, 0, Due.LEAST), Due.UNKNOWN);
        due.is(49, "refused, no fault", x.fault(), 0);
    }

    private static void quarrelsOfTen() {
        int[][] trials = new int[10][10];
        for (int[] row : trials) {
            java.util.Arrays.fill(row, 1);
        }
        LentFiddles x = withTrials(trials);
        Due.fill(x, 0, 0, -1, -1, -1, -1, -1, -1, -1, -1, -1, -1);
        due.is(11, "all with all", x.quarrels(0, 0, 0), 100);
        due.is(12, "the last", x.quarrel(0, 0, 0, 99), 99);
        due.is(12, "behind the last", x.quarrel(0, 0, 0, 100), Due.UNKNOWN);
        Due.fill(x, 0, 0, -1, -1, -1, -1, -1, -1, -1, -1, -1, 10);
        due.is(11, "no violin", x.quarrels(0, 0, 0), Due.OUTSIDE);
        Due.fill(x, 0, 0, 9, 8, 7, 6, 5, 4, 3, 2, 1, 0);
        due.is(11, "all have one", x.quarrels(0, 0, 0), 0);
        isRow(10, x, 1, 0, 1, 2, 3, 4, 5, 6, 7, 8, 9);
    }

    private static void isRefused(LentFiddles x, int sheet, int lane, int i, int want) {
        int wantFault = want <= -11 ? -10 - want : 0;
        due.is(11, "quarrels refused", x.quarrels(sheet, lane, i), want);
        due.is(49, "its fault", x.fault(), wantFault);
        due.is(12, "quarrel refused", x.quarrel(sheet, lane, i, 0), want);
        due.is(49, "its fault", x.fault(), wantFault);
        due.is(12, "quarrel refused ahead of a great n", x.quarrel(sheet, lane, i, 1000), want);
    }
}
