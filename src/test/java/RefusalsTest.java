import java.util.Arrays;
import java.util.function.Supplier;

/**
 * Each call that can be refused, promise by promise, with one wrong number and with each two: the first in the order
 * told is answered, fault() tells what it was (of calls that name FAULTS) or stays, and nothing else has changed.
 */
public final class RefusalsTest {
    private static final Due due = new Due();
    /** What fault() told of both houses ahead of the call. */
    private static final int AHEAD = 3;

    private static int promise;
    private static boolean namesFaults;
    private static boolean answersLong;
    private static Supplier<LentFiddles> house;
    private static long[][] untouched;

    interface Call {
        long by(LentFiddles x, int[] a);
    }

    public static void main(String[] args) {
        inFurnished();
        violins();
        lendings();
        loans();
        moves();
        holders();
        trips();
        rings();
        contract();
        sheets();
        inFull();
        due.end();
    }

    // ---- how a call is tried

    private static void inHouse(Supplier<LentFiddles> which) {
        house = which;
        untouched = new long[House.PARTS][];
        for (int part = 0; part < House.PARTS; part++) {
            untouched[part] = House.read(house.get(), part);
        }
    }

    private static void inFurnished() {
        inHouse(House::furnished);
        due.is(49, "the fault ahead", House.furnished().fault(), AHEAD);
        due.is(49, "the fault ahead", House.full().fault(), AHEAD);
    }

    /** A wrong number, the refusal that is due for it, and its place among the call's numbers. */
    private static int[] wrong(int answer, int place, int number) {
        return new int[] {answer, place, number};
    }

    private static void plain(int ofPromise, int answer, Call call, int[] right, int[]... wrongs) {
        promise = ofPromise;
        namesFaults = false;
        answersLong = false;
        order(answer, call, right, wrongs);
    }

    private static void naming(int ofPromise, int answer, Call call, int[] right, int[]... wrongs) {
        promise = ofPromise;
        namesFaults = true;
        answersLong = false;
        order(answer, call, right, wrongs);
    }

    private static int[] numbers(int... all) {
        return all;
    }

    private static void order(int answer, Call call, int[] right, int[][] wrongs) {
        if (answer < 0) {
            refused(answer, call, right);
        } else {
            due.is(promise, Arrays.toString(right), call.by(house.get(), right), answer);
        }
        for (int first = 0; first < wrongs.length; first++) {
            refused(wrongs[first][0], call, with(right, wrongs[first]));
            for (int second = first + 1; second < wrongs.length; second++) {
                if (wrongs[first][1] != wrongs[second][1]) {
                    refused(wrongs[first][0], call, with(with(right, wrongs[first]), wrongs[second]));
                }
            }
        }
    }

    private static int[] with(int[] numbers, int[] wrong) {
        int[] changed = numbers.clone();
        changed[wrong[1]] = wrong[2];
        return changed;
    }

    private static void refused(int answer, Call call, int[] numbers) {
        String what = Arrays.toString(numbers);
        LentFiddles x = house.get();
        due.is(promise, what, call.by(x, numbers), answersLong ? Due.LOST : answer);
        boolean isFault = answer <= Due.NULL && answer >= Due.SIZE;
        due.is(49, "fault of promise " + promise + what, x.fault(), !namesFaults ? AHEAD : isFault ? -10 - answer : 0);
        for (int part = 0; part < House.PARTS; part++) {
            LentFiddles y = house.get();
            call.by(y, numbers);
            boolean same = Arrays.equals(House.read(y, part), untouched[part]);
            due.is(promise, "part " + part + " is as it was behind " + what, same ? 1 : 0, 1);
        }
    }

    // ---- 1 violins, players

    private static void violins() {
        plain(2, 4, (x, a) -> x.violin(a[0], a[1], a[2]), numbers(2, 9, 7),
            wrong(Due.OUTSIDE, 0, 3), wrong(Due.OUTSIDE, 1, 10), wrong(Due.OUTSIDE, 2, 0));
        plain(3, 3, (x, a) -> x.player(a[0]), numbers(7), wrong(Due.OUTSIDE, 0, 100), wrong(Due.OUTSIDE, 0, -1));
        plain(4, 9, (x, a) -> x.trial(a[0], a[1], a[2]), numbers(0, 0, 7),
            wrong(Due.UNKNOWN, 0, 3), wrong(Due.UNKNOWN, 1, 4), wrong(Due.OUTSIDE, 2, 100), wrong(Due.OUTSIDE, 2, -1));
        plain(5, 1, (x, a) -> x.had(a[0], a[1], a[2] == 1), numbers(0, 9, 1),
            wrong(Due.UNKNOWN, 0, 3), wrong(Due.OUTSIDE, 1, 10), wrong(Due.OUTSIDE, 1, 32), wrong(Due.OUTSIDE, 1, -1));
        plain(6, 1, (x, a) -> x.may(a[0], a[1]), numbers(2, 0), wrong(Due.UNKNOWN, 0, 3), wrong(Due.UNKNOWN, 1, 4));
        plain(7, 7, (x, a) -> x.ofViolin(a[0], a[1]), numbers(0, 1),
            wrong(Due.UNKNOWN, 0, 4), wrong(Due.OUTSIDE, 1, 8));
        plain(8, 50, (x, a) -> x.ofPlayer(a[0], a[1]), numbers(0, 0),
            wrong(Due.UNKNOWN, 0, 3), wrong(Due.OUTSIDE, 1, 4));
        plain(10, 2, (x, a) -> x.lent(a[0], a[1]), numbers(0, 1), wrong(Due.UNKNOWN, 0, 3), wrong(Due.OUTSIDE, 1, 2));
    }

    private static void lendings() {
        Call quarrels = (x, a) -> x.quarrels(a[0], a[1], a[2]);
        naming(11, 7, quarrels, numbers(0, 0, 0), wrong(Due.UNKNOWN, 0, 4), wrong(Due.OUTSIDE, 1, 3),
            wrong(Due.NULL, 0, 3), wrong(Due.CAST, 1, 1), wrong(Due.INDEX, 2, 3), wrong(Due.INDEX, 2, -1));
        naming(11, Due.OUTSIDE, quarrels, numbers(2, 2, 1), wrong(Due.UNKNOWN, 0, 4), wrong(Due.OUTSIDE, 1, -1),
            wrong(Due.NULL, 0, 3), wrong(Due.CAST, 1, 0), wrong(Due.INDEX, 2, 2), wrong(Due.INDEX, 2, 100));
        Call quarrel = (x, a) -> x.quarrel(a[0], a[1], a[2], a[3]);
        naming(12, 2, quarrel, numbers(0, 0, 0, 0), wrong(Due.UNKNOWN, 0, 4), wrong(Due.UNKNOWN, 3, -1),
            wrong(Due.OUTSIDE, 1, 3), wrong(Due.NULL, 0, 3), wrong(Due.CAST, 1, 1), wrong(Due.INDEX, 2, 3),
            wrong(Due.UNKNOWN, 3, 7));
        naming(12, Due.OUTSIDE, quarrel, numbers(2, 2, 1, 1000), wrong(Due.UNKNOWN, 0, -1), wrong(Due.UNKNOWN, 3, -1),
            wrong(Due.OUTSIDE, 1, 3), wrong(Due.NULL, 0, 3), wrong(Due.CAST, 1, 1), wrong(Due.INDEX, 2, 2));
    }

    // ---- 2 loans, looks, moves

    private static void loans() {
        plain(13, 3, (x, a) -> x.lend(a[0], a[1], a[2], a[3]), numbers(2, 3, 100, 100),
            wrong(Due.UNKNOWN, 0, 3), wrong(Due.UNKNOWN, 1, 4), wrong(Due.OUTSIDE, 2, -1), wrong(Due.OUTSIDE, 2, 101),
            wrong(Due.OUTSIDE, 3, 100001), wrong(Due.OUTSIDE, 3, 99), wrong(Due.STATE, 1, 1));
        plain(13, 3, (x, a) -> x.lend(a[0], a[1], a[2], a[3]), numbers(2, 0, 9, 9),
            wrong(Due.UNKNOWN, 0, -1), wrong(Due.UNKNOWN, 1, -1), wrong(Due.OUTSIDE, 2, 11), wrong(Due.STATE, 3, 10));
        plain(14, 20, (x, a) -> x.back(a[0], a[1]), numbers(0, 15),
            wrong(Due.UNKNOWN, 0, 3), wrong(Due.OUTSIDE, 1, 9), wrong(Due.OUTSIDE, 1, 21));
        plain(15, 1, (x, a) -> x.warn(a[0], a[1]), numbers(0, 15),
            wrong(Due.UNKNOWN, 0, 3), wrong(Due.OUTSIDE, 1, -1), wrong(Due.OUTSIDE, 1, 100001));
        plain(16, 20, (x, a) -> x.loan(a[0], a[1]), numbers(0, 3), wrong(Due.UNKNOWN, 0, 3), wrong(Due.OUTSIDE, 1, 6));
        plain(17, 0, (x, a) -> x.on(a[0], a[1], a[2]), numbers(0, 0, 15),
            wrong(Due.OUTSIDE, 0, 2), wrong(Due.UNKNOWN, 1, 4), wrong(Due.OUTSIDE, 2, 100001));
        plain(17, 0, (x, a) -> x.on(a[0], a[1], a[2]), numbers(1, 0, 15),
            wrong(Due.OUTSIDE, 0, -1), wrong(Due.UNKNOWN, 1, 3), wrong(Due.OUTSIDE, 2, -1));
        plain(18, 4, (x, a) -> x.look(a[0], a[1], a[2]), numbers(0, 11, 1),
            wrong(Due.UNKNOWN, 0, 4), wrong(Due.OUTSIDE, 1, 100001), wrong(Due.OUTSIDE, 2, 65536),
            wrong(Due.STATE, 1, 10));
        plain(19, 16, (x, a) -> x.born(a[0], a[1], a[2]), numbers(0, 1, 0),
            wrong(Due.UNKNOWN, 0, 4), wrong(Due.UNKNOWN, 1, 16), wrong(Due.OUTSIDE, 2, 2), wrong(Due.NONE, 1, 5));
        plain(20, 0, (x, a) -> x.blame(a[0], a[1]), numbers(0, 0),
            wrong(Due.UNKNOWN, 0, 4), wrong(Due.UNKNOWN, 1, 16), wrong(Due.NONE, 1, 5));
        plain(21, 1, (x, a) -> x.wrongs(a[0]), numbers(0), wrong(Due.UNKNOWN, 0, 4));
    }

    private static void moves() {
        Call days = (x, a) -> x.days(a[0], a[1], a[2], a[3], a[4]);
        naming(22, 1, days, numbers(15, 9, 0, 0, 0), wrong(Due.UNKNOWN, 2, 4), wrong(Due.OUTSIDE, 3, 3),
            wrong(Due.OUTSIDE, 0, -1), wrong(Due.OUTSIDE, 1, 10), wrong(Due.NULL, 2, 3), wrong(Due.CAST, 3, 2),
            wrong(Due.INDEX, 4, 3), wrong(Due.INDEX, 4, -1));
        naming(22, Due.OUTSIDE, days, numbers(15, 9, 2, 2, 1), wrong(Due.UNKNOWN, 2, 4), wrong(Due.OUTSIDE, 3, 3),
            wrong(Due.OUTSIDE, 0, 100001), wrong(Due.OUTSIDE, 1, 0), wrong(Due.NULL, 2, 3), wrong(Due.CAST, 3, 0),
            wrong(Due.INDEX, 4, 2));
        naming(22, Due.OUTSIDE, days, numbers(15, 9, 1, 1, 0), wrong(Due.CAST, 3, 0), wrong(Due.INDEX, 4, 5));
    }

    // ---- 3 holders

    private static void holders() {
        plain(23, 4, (x, a) -> x.holder(a[0], a[1], a[2], a[3]), numbers(0, 1, 1500, 1500), wrong(Due.UNKNOWN, 0, 4),
            wrong(Due.OUTSIDE, 1, 100), wrong(Due.OUTSIDE, 2, 1499), wrong(Due.OUTSIDE, 2, 1501),
            wrong(Due.OUTSIDE, 3, 2101), wrong(Due.OUTSIDE, 3, 1499));
        plain(24, 1, (x, a) -> x.gaps(a[0], a[1]), numbers(0, 1), wrong(Due.UNKNOWN, 0, 4), wrong(Due.OUTSIDE, 1, 2));
        plain(25, 1719, (x, a) -> x.gap(a[0], a[1], a[2]), numbers(0, 0, 1),
            wrong(Due.UNKNOWN, 0, 4), wrong(Due.UNKNOWN, 1, 2), wrong(Due.UNKNOWN, 1, -1), wrong(Due.OUTSIDE, 2, 2));
        plain(26, 2, (x, a) -> x.claim(a[0], a[1], a[2]), numbers(0, 1, 1709), wrong(Due.UNKNOWN, 0, 4),
            wrong(Due.OUTSIDE, 1, 100), wrong(Due.OUTSIDE, 1, -1), wrong(Due.OUTSIDE, 2, 1499),
            wrong(Due.OUTSIDE, 2, 2101));
    }

    // ---- 4 trips, damp

    private static void trips() {
        plain(27, 4, (x, a) -> x.trip(a[0], a[1], a[2]), numbers(0, 14, -1),
            wrong(Due.UNKNOWN, 0, 4), wrong(Due.OUTSIDE, 1, -1), wrong(Due.OUTSIDE, 2, 2), wrong(Due.STATE, 1, 13));
        plain(28, 1, (x, a) -> x.fix(a[0], a[1]), numbers(3, 0), wrong(Due.UNKNOWN, 0, 4), wrong(Due.OUTSIDE, 1, -2));
        plain(29, 1000000, (x, a) -> x.spread(a[0]), numbers(12), wrong(Due.OUTSIDE, 0, -1));
        plain(30, 1, (x, a) -> x.plane(a[0]), numbers(0), wrong(Due.UNKNOWN, 0, 4));
        plain(31, 5000, (x, a) -> x.limit(a[0]), numbers(9),
            wrong(Due.OUTSIDE, 0, 0), wrong(Due.OUTSIDE, 0, 100000001));
        Call damp = (x, a) -> x.damp(a[0], a[1], a[2], a[3], a[4], a[5], a[6]);
        naming(33, 4, damp, numbers(0, 0, 0, 5, 0, 50, 0), wrong(Due.UNKNOWN, 0, 4), wrong(Due.OUTSIDE, 1, 3),
            wrong(Due.OUTSIDE, 4, -1), wrong(Due.OUTSIDE, 4, 51), wrong(Due.OUTSIDE, 5, 101), wrong(Due.OUTSIDE, 6, 2),
            wrong(Due.NULL, 0, 3), wrong(Due.CAST, 1, 1), wrong(Due.SIZE, 3, -1), wrong(Due.INDEX, 2, 6),
            wrong(Due.INDEX, 3, 6));
        naming(33, Due.OUTSIDE, damp, numbers(2, 2, 0, 4, 0, 50, 1), wrong(Due.UNKNOWN, 0, -1),
            wrong(Due.OUTSIDE, 1, -1), wrong(Due.OUTSIDE, 6, -1), wrong(Due.NULL, 0, 3), wrong(Due.CAST, 1, 0),
            wrong(Due.SIZE, 3, -1), wrong(Due.INDEX, 2, -1), wrong(Due.INDEX, 3, 5));
    }

    // ---- 5 rings

    private static void rings() {
        Call rings = (x, a) -> x.rings(a[0], a[1], a[2], a[3], a[4]);
        naming(34, 7, rings, numbers(1, 1, 1, 0, 7), wrong(Due.UNKNOWN, 0, 4), wrong(Due.UNKNOWN, 1, 4),
            wrong(Due.OUTSIDE, 2, 3), wrong(Due.NULL, 1, 3), wrong(Due.CAST, 2, 2), wrong(Due.SIZE, 4, -1),
            wrong(Due.INDEX, 3, 8), wrong(Due.INDEX, 4, 8), wrong(Due.INDEX, 4, 60));
        naming(34, Due.OUTSIDE, rings, numbers(0, 2, 2, 1, 3), wrong(Due.UNKNOWN, 0, -1), wrong(Due.UNKNOWN, 1, -1),
            wrong(Due.OUTSIDE, 2, -1), wrong(Due.NULL, 1, 3), wrong(Due.CAST, 2, 1), wrong(Due.SIZE, 4, -1),
            wrong(Due.INDEX, 3, -1), wrong(Due.INDEX, 4, 21));
        Call oak = (x, a) -> x.oak(a[0], a[1], a[2], a[3], a[4]);
        naming(35, 7, oak, numbers(1, 1, 0, 7, 0), wrong(Due.UNKNOWN, 0, 4), wrong(Due.OUTSIDE, 1, 3),
            wrong(Due.OUTSIDE, 4, 2101), wrong(Due.NULL, 0, 3), wrong(Due.CAST, 1, 2), wrong(Due.SIZE, 3, -1),
            wrong(Due.INDEX, 2, 8), wrong(Due.INDEX, 3, 8));
        naming(35, Due.OUTSIDE, oak, numbers(2, 2, 1, 3, 0), wrong(Due.UNKNOWN, 0, -1), wrong(Due.OUTSIDE, 1, -1),
            wrong(Due.OUTSIDE, 4, -1), wrong(Due.NULL, 0, 3), wrong(Due.CAST, 1, 0), wrong(Due.SIZE, 3, -1),
            wrong(Due.INDEX, 2, -1), wrong(Due.INDEX, 3, 4));
        lost(36, (x, a) -> x.laid(a[0], a[1], a[2]), numbers(4, 0, 0), numbers(-1, 0, 0), numbers(2, 0, 0),
            numbers(0, -7, 0), numbers(0, 6, 0), numbers(0, 0, 2), numbers(0, 0, -1), numbers(4, 6, 2));
        lost(37, (x, a) -> x.best(a[0], a[1]), numbers(4, 0), numbers(-1, 0), numbers(2, 0), numbers(0, 3),
            numbers(0, -1), numbers(2, 3));
        plain(38, 1, (x, a) -> x.oneTree(a[0], a[1]), numbers(0, 1),
            wrong(Due.UNKNOWN, 0, 4), wrong(Due.UNKNOWN, 1, 4), wrong(Due.STATE, 1, 0));
        refused(Due.UNKNOWN, (x, a) -> x.oneTree(a[0], a[1]), numbers(4, 4));
        refused(Due.UNKNOWN, (x, a) -> x.oneTree(a[0], a[1]), numbers(-1, -1));
    }

    private static void lost(int ofPromise, Call call, int[]... all) {
        promise = ofPromise;
        namesFaults = false;
        answersLong = true;
        for (int[] numbers : all) {
            refused(Due.UNKNOWN, call, numbers);
        }
    }

    // ---- 6 the contract

    private static void contract() {
        Call contract = (x, a) -> x.contract(a[0], a[1], a[2], a[3]);
        naming(39, 0, contract, numbers(0, 0, 0, 0), wrong(Due.UNKNOWN, 0, 4), wrong(Due.OUTSIDE, 1, 3),
            wrong(Due.NULL, 0, 3), wrong(Due.CAST, 1, 2), wrong(Due.SIZE, 3, -1), wrong(Due.INDEX, 2, 6),
            wrong(Due.INDEX, 3, 6));
        naming(39, -100, contract, numbers(0, 0, 0, 5), wrong(Due.UNKNOWN, 0, -1), wrong(Due.OUTSIDE, 1, -1),
            wrong(Due.NULL, 0, 3), wrong(Due.CAST, 1, 1), wrong(Due.SIZE, 3, -1), wrong(Due.INDEX, 2, -1),
            wrong(Due.INDEX, 3, 100));
        plain(40, 12, (x, a) -> x.clause(a[0]), numbers(1), wrong(Due.UNKNOWN, 0, 4), wrong(Due.UNKNOWN, 0, -1));
    }

    // ---- sheets, parts

    private static void sheets() {
        naming(41, 1, (x, a) -> x.sheet(a[0], a[1], a[2]), numbers(0, 2, 60), wrong(Due.UNKNOWN, 0, 4),
            wrong(Due.OUTSIDE, 1, 3), wrong(Due.OUTSIDE, 2, 61), wrong(Due.SIZE, 2, -1));
        plain(42, 1, (x, a) -> x.lose(a[0]), numbers(0), wrong(Due.UNKNOWN, 0, 4), wrong(0, 0, 3));
        naming(43, 1, (x, a) -> x.put(a[0], a[1], a[2]), numbers(0, 0, 9), wrong(Due.UNKNOWN, 0, 4),
            wrong(Due.NULL, 0, 3), wrong(Due.INDEX, 1, 5), wrong(Due.INDEX, 1, -1));
        promise = 44;
        namesFaults = true;
        answersLong = true;
        order(Due.NULL, (x, a) -> x.at(a[0], a[1], a[2]), numbers(3, 9, 1), new int[][] {
            wrong(Due.UNKNOWN, 0, 4), wrong(Due.OUTSIDE, 2, 3), wrong(Due.OUTSIDE, 2, -1)});
        order(Due.INDEX, (x, a) -> x.at(a[0], a[1], a[2]), numbers(0, 5, 0), new int[][] {
            wrong(Due.UNKNOWN, 0, -1), wrong(Due.OUTSIDE, 2, 3), wrong(Due.NULL, 0, 3), wrong(Due.CAST, 2, 1)});
        plain(45, 21, (x, a) -> x.tell(a[0]), numbers(0), wrong(Due.UNKNOWN, 0, 4), wrong(Due.UNKNOWN, 0, -1));
        plain(46, 70, (x, a) -> x.praise(a[0]), numbers(0), wrong(Due.UNKNOWN, 0, 4), wrong(Due.UNKNOWN, 0, -1));
        naming(47, 1, (x, a) -> x.as(a[0], a[1]), numbers(1, 1),
            wrong(Due.UNKNOWN, 0, 4), wrong(Due.OUTSIDE, 1, 3), wrong(Due.CAST, 1, 2));
        plain(50, 4, (x, a) -> x.many(a[0]), numbers(0), wrong(Due.OUTSIDE, 0, 8), wrong(Due.OUTSIDE, 0, -1));
    }

    /** Where there is no room, FULL comes behind all others. */
    private static void inFull() {
        inHouse(House::full);
        plain(2, Due.FULL, (x, a) -> x.violin(a[0], a[1], a[2]), numbers(2, 9, 7),
            wrong(Due.OUTSIDE, 0, 3), wrong(Due.OUTSIDE, 1, 10), wrong(Due.OUTSIDE, 2, 0));
        plain(3, Due.FULL, (x, a) -> x.player(a[0]), numbers(7), wrong(Due.OUTSIDE, 0, 100));
        plain(13, Due.FULL, (x, a) -> x.lend(a[0], a[1], a[2], a[3]), numbers(0, 9, 1000, 1000),
            wrong(Due.UNKNOWN, 0, 10), wrong(Due.UNKNOWN, 1, 10), wrong(Due.OUTSIDE, 2, -1),
            wrong(Due.OUTSIDE, 3, 100001), wrong(Due.STATE, 1, 0));
        plain(13, Due.FULL, (x, a) -> x.lend(a[0], a[1], a[2], a[3]), numbers(0, 9, 37, 1000),
            wrong(Due.STATE, 2, 36), wrong(Due.STATE, 2, 30), wrong(Due.STATE, 2, 0));
        plain(18, Due.FULL, (x, a) -> x.look(a[0], a[1], a[2]), numbers(0, 1000, 1),
            wrong(Due.UNKNOWN, 0, 10), wrong(Due.OUTSIDE, 1, -1), wrong(Due.OUTSIDE, 2, -1), wrong(Due.STATE, 1, 0));
        plain(23, Due.FULL, (x, a) -> x.holder(a[0], a[1], a[2], a[3]), numbers(0, 1, 1500, 1500),
            wrong(Due.UNKNOWN, 0, 10), wrong(Due.OUTSIDE, 1, -1), wrong(Due.OUTSIDE, 2, 1501),
            wrong(Due.OUTSIDE, 3, 1499));
        plain(27, Due.FULL, (x, a) -> x.trip(a[0], a[1], a[2]), numbers(0, 1000, 1),
            wrong(Due.UNKNOWN, 0, 10), wrong(Due.OUTSIDE, 1, -1), wrong(Due.OUTSIDE, 2, -2), wrong(Due.STATE, 1, 0));
    }
}
