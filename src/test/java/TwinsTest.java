import java.util.Random;

/**
 * Two objects side by side: one hears all calls, also the wild ones, the other only those that were not refused.
 * Whatever a refused call changed would part them, and so would what a mere question changed, which the other
 * does not hear; and no call may throw.
 */
public final class TwinsTest {
    private static final Due due = new Due();
    private static final int CALLS = 75, CALL_KINDS = 38, NAMING_FAULTS = 15, CONTRACT = 20, AT = 24;
    private static final int[] WILD = {-1, -2, 10, 16, 20, 21, 40, 60, 61, 99, 100, 101, 255, 256, 1499, 2101, 65536,
        100001, 1000001, 100000001, Due.LEAST, Due.MOST, Due.LEAST + 1, Due.MOST - 1, 32, 33, -32};

    private final Random random;
    private final int[] a = new int[8];

    private TwinsTest(long seed) {
        random = new Random(seed);
    }

    public static void main(String[] args) {
        for (int seed = 0; seed < 1500; seed++) {
            new TwinsTest(seed).run(seed % 3);
        }
        due.end();
    }

    private int number(int n) {
        return random.nextInt(n);
    }

    /** Mostly a number that is told, now and then a wild one. */
    private int some(int low, int high, int wildness) {
        if (number(40) < 2 * wildness) {
            return WILD[number(WILD.length)];
        }
        return low + number(high - low + 1);
    }

    private void run(int wildness) {
        LentFiddles x = new LentFiddles();
        LentFiddles twin = new LentFiddles();
        for (int n = 0; n < CALLS; n++) {
            int call = n < 20 ? number(3) : number(CALL_KINDS);
            choose(call, wildness);
            askOnly(x, number(19));
            int faultAhead = x.fault();
            long got = ask(x, call);
            boolean refused = call == AT ? got == Due.LOST : call == CONTRACT ? got < 0 && got > -100 : got < 0 && got != Due.NONE;
            if (refused) {
                checkFault(call, got, faultAhead, x.fault());
            } else {
                due.is(0, "the twin's call " + call, ask(twin, call), got);
            }
        }
        compare(x, twin);
    }

    private void checkFault(int call, long got, int ahead, int now) {
        if (call == AT) {
            due.is(49, "a fault of at() is one", now >= 0 && now <= 3 ? 1 : 0, 1);
        } else if (call >= NAMING_FAULTS) {
            due.is(49, "fault of call " + call, now, got <= -11 && got >= -14 ? -10 - got : 0);
        } else {
            due.is(49, "fault behind call " + call, now, ahead);
        }
    }

    /** Numbers for the call, kept so that both twins hear the same. */
    private void choose(int call, int w) {
        a[0] = some(0, 4, w);
        a[1] = some(0, 4, w);
        a[2] = some(0, 9, w);
        a[3] = some(0, 20, w);
        a[4] = some(0, 20, w);
        a[5] = some(1500, 1540, w);
        a[6] = some(1500, 1540, w);
        a[7] = some(0, 2, w);
    }

    private long ask(LentFiddles x, int call) {
        switch (call) {
            case 0: return x.violin(a[7], a[2], 1 + a[3] * 1000);
            case 1: return x.player(a[3]);
            case 2: return x.trial(a[0], a[1], a[3]);
            case 3: return x.had(a[0], a[2], (a[3] & 1) == 0);
            case 4: return x.lend(a[0], a[1], a[3], a[4]);
            case 5: return x.back(a[2], a[3]);
            case 6: return x.warn(a[2], a[3]);
            case 7: return x.look(a[1], a[3], a[4]);
            case 8: return x.holder(a[1], a[2], a[5], a[6]);
            case 9: return x.trip(a[1], a[3], a[7] - 1);
            case 10: return x.fix(a[2], a[7] - 1);
            case 11: return x.limit(a[3] * 500);
            case 12: return x.tell(a[0]);
            case 13: return x.praise(a[0]);
            case 14: return x.lose(a[0]);
            default: return askMore(x, call);
        }
    }

    private long askMore(LentFiddles x, int call) {
        switch (call) {
            case 15: return x.quarrels(a[0], a[7], a[2]);
            case 16: return x.quarrel(a[0], a[7], a[2], a[3]);
            case 17: return x.days(a[3], a[2], a[0], a[7], a[1]);
            case 18: return x.damp(a[0], a[7], a[2], a[3], a[1], a[4], a[4] & 1);
            case 19: return x.rings(a[0], a[1], a[7], a[2], a[3]);
            case CONTRACT: return x.contract(a[0], a[7], a[2], a[1]);
            case 21: return x.oak(a[0], a[7], a[2], a[3], a[5]);
            case 22: return x.sheet(a[0], a[7], a[3]);
            case 23: return x.sheet(a[1], a[7], 3 * a[3]);
            case AT: return x.at(a[0], a[3], a[7]);
            case 25: return x.as(a[0], a[7]);
            default: return x.put(a[0], a[3], call == 33 ? a[4] - 1 : call == 34 ? a[5] : 1 + a[2]);
        }
    }

    private long askOnly(LentFiddles x, int call) {
        switch (call) {
            case 0: return x.may(a[0], a[1]);
            case 1: return x.ofViolin(a[0], a[2]);
            case 2: return x.ofPlayer(a[0], a[7]);
            case 3: return x.lent(a[0], a[7]);
            case 4: return x.loan(a[2], a[1]);
            case 5: return x.on(a[7], a[0], a[3]);
            case 6: return x.born(a[0], a[2], a[7]);
            case 7: return x.blame(a[0], a[2]);
            case 8: return x.wrongs(a[0]) + x.over();
            case 9: return x.gaps(a[0], a[7]);
            case 10: return x.gap(a[0], a[1], a[7]);
            case 11: return x.claim(a[0], a[2], a[5]);
            case 12: return x.spread(a[3]) + x.sum();
            case 13: return x.plane(a[2]);
            case 14: return x.laid(a[0], a[1] - a[2], a[7]);
            case 15: return x.best(a[0], a[7]);
            case 16: return x.oneTree(a[0], a[1]);
            case 17: return x.clause(a[0]);
            default: return x.many(a[2]);
        }
    }

    private void compare(LentFiddles x, LentFiddles twin) {
        for (int what = 0; what < 8; what++) {
            due.is(50, "many", twin.many(what), x.many(what));
        }
        due.is(48, "trace", twin.trace(), x.trace());
        due.is(9, "sum", twin.sum(), x.sum());
        due.is(32, "over", twin.over(), x.over());
        for (int n = 0; n < 4; n++) {
            due.is(40, "clause", twin.clause(n), x.clause(n));
            due.is(10, "lent", twin.lent(n, n & 1), x.lent(n, n & 1));
            due.is(7, "rings", twin.ofViolin(n, 3), x.ofViolin(n, 3));
            due.is(37, "best", twin.best(n, 2), x.best(n, 2));
            due.is(8, "had", twin.ofPlayer(n, 1), x.ofPlayer(n, 1));
            due.is(8, "may", twin.ofPlayer(n, 2), x.ofPlayer(n, 2));
            due.is(21, "wrongs", twin.wrongs(n), x.wrongs(n));
            due.is(24, "gaps", twin.gaps(n, 0), x.gaps(n, 0));
            due.is(24, "quarrels", twin.gaps(n, 1), x.gaps(n, 1));
        }
        for (int n = 0; n < 10; n++) {
            due.is(16, "to", twin.loan(n, 3), x.loan(n, 3));
            due.is(16, "broken", twin.loan(n, 5), x.loan(n, 5));
            due.is(30, "plane", twin.plane(n), x.plane(n));
        }
        for (int k = 0; k < 4; k++) {
            for (int lane = 0; lane < 3; lane++) {
                for (int i = 0; i < 4; i++) {
                    due.is(44, "at", twin.at(k, i * 5, lane), x.at(k, i * 5, lane));
                }
            }
        }
        due.is(31, "limit", twin.limit(7), x.limit(7));
    }
}
