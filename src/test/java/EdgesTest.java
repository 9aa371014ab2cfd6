import java.util.function.Supplier;

/**
 * Every number that a call takes, promise by promise: the least and the greatest that are allowed with what is due
 * there, and the first ones below and above them with their refusals; each on a house of its own.
 */
public final class EdgesTest {
    private static final Due due = new Due();

    interface Call {
        long by(LentFiddles x, int n);
    }

    public static void main(String[] args) {
        violins();
        players();
        lendings();
        sheetsOfLendings();
        loans();
        looks();
        moves();
        holders();
        trips();
        damp();
        rings();
        oak();
        laid();
        contract();
        sheets();
        parts();
        due.end();
    }

    /** In the order of the numbers: below the least, the least, the greatest, above the greatest. */
    private static void edge(int promise, String what, Supplier<LentFiddles> house, Call call,
            long below, int least, long atLeast, int most, long atMost, long above) {
        String name = what + " ";
        due.is(promise, name + (least - 1), call.by(house.get(), least - 1), below);
        due.is(promise, name + Due.LEAST, call.by(house.get(), Due.LEAST), below);
        due.is(promise, name + least, call.by(house.get(), least), atLeast);
        due.is(promise, name + most, call.by(house.get(), most), atMost);
        due.is(promise, name + (most + 1), call.by(house.get(), most + 1), above);
        due.is(promise, name + Due.MOST, call.by(house.get(), Due.MOST), above);
    }

    /** For each number from the first on what is due. */
    private static void row(int promise, String what, Call call, int first, long... wanted) {
        for (int n = 0; n < wanted.length; n++) {
            due.is(promise, what + " " + (first + n), call.by(House.furnished(), first + n), wanted[n]);
        }
    }

    private static void unknown(int promise, String what, Call call, int least, long atLeast, int most, long atMost) {
        edge(promise, what, House::furnished, call, Due.UNKNOWN, least, atLeast, most, atMost, Due.UNKNOWN);
    }

    private static void nothing(int promise, Call call) {
        unknown(promise, "sheet that has nothing", (x, n) -> {
            x.lose(n);
            return call.by(x, n);
        }, 0, Due.NULL, 3, Due.NULL);
    }

    private static void outside(int promise, String what, Call call, int least, long atLeast, int most, long atMost) {
        edge(promise, what, House::furnished, call, Due.OUTSIDE, least, atLeast, most, atMost, Due.OUTSIDE);
    }

    /** LOST below the least and above the greatest. */
    private static void lost(int promise, String what, Call call, int least, long atLeast, int most, long atMost) {
        edge(promise, what, House::furnished, call, Due.LOST, least, atLeast, most, atMost, Due.LOST);
    }

    // ---- 1 violins, players

    /** Promises 2, 7. */
    private static void violins() {
        outside(2, "kind", (x, n) -> x.violin(n, 0, 1), 0, 4, 2, 4);
        outside(2, "maker", (x, n) -> x.violin(0, n, 1), 0, 4, 9, 4);
        outside(2, "worth", (x, n) -> x.violin(0, 0, n), 1, 4, 1000000, 4);
        unknown(7, "violin", (x, n) -> x.ofViolin(n, 1), 0, 7, 3, 0);
        outside(7, "what", (x, n) -> x.ofViolin(0, n), 0, 2, 7, 2);
        for (int count = 0; count <= 12; count++) {
            LentFiddles x = House.empty();
            int last = 0;
            for (int n = 0; n < count; n++) {
                last = x.violin(0, 0, 1);
            }
            due.is(2, count + " violins, the last's number", last, count == 0 ? 0 : count <= 10 ? count - 1 : Due.FULL);
            due.is(50, count + " violins", x.many(0), Math.min(count, 10));
        }
    }

    /** Promises 3 to 6, 8. */
    private static void players() {
        outside(3, "rank", (x, n) -> x.player(n), 0, 3, 99, 3);
        for (int count = 0; count <= 12; count++) {
            LentFiddles x = House.empty();
            int last = 0;
            for (int n = 0; n < count; n++) {
                last = x.player(0);
            }
            due.is(3, count + " players, the last's number", last, count == 0 ? 0 : count <= 10 ? count - 1 : Due.FULL);
            due.is(50, count + " players", x.many(1), Math.min(count, 10));
        }
        unknown(4, "player", (x, n) -> x.trial(n, 0, 1), 0, 9, 2, 6);
        unknown(4, "violin", (x, n) -> x.trial(0, n, 1), 0, 9, 3, 4);
        outside(4, "trial", (x, n) -> x.trial(1, 3, n), 0, 1, 99, 1);
        outside(4, "trial told", (x, n) -> x.trial(1, 3, n) < 0 ? Due.OUTSIDE : x.trial(1, 3, 5), 0, 0, 99, 99);
        unknown(5, "player", (x, n) -> x.had(n, 5, true), 0, 1, 2, 1);
        outside(5, "maker", (x, n) -> x.had(2, n, true), 0, 1, 9, 1);
        outside(5, "maker not had", (x, n) -> x.had(2, n, false), 0, 0, 9, 0);
        unknown(6, "player", (x, n) -> x.may(n, 3), 0, 1, 2, 1);
        unknown(6, "violin", (x, n) -> x.may(2, n), 0, 1, 3, 1);
        outside(6, "a trial of 0 is none, one of 1 is", (x, n) -> x.trial(1, 3, n) < 0 ? Due.OUTSIDE : x.may(1, 3),
            0, 0, 99, 1);
        due.is(6, "a trial of 1", House.furnished().may(1, 3), 1);
        unknown(8, "player", (x, n) -> x.ofPlayer(n, 0), 0, 50, 2, 50);
        outside(8, "what", (x, n) -> x.ofPlayer(0, n), 0, 50, 3, 2);
    }

    /** Promise 10. */
    private static void lendings() {
        unknown(10, "player", (x, n) -> x.lent(n, 0), 0, 2, 2, 0);
        outside(10, "which", (x, n) -> x.lent(0, n), 0, 2, 1, 2);
        LentFiddles x = House.empty();
        x.player(0);
        due.is(10, "none to have", x.lent(0, 0), Due.NONE);
        due.is(10, "none to have", x.lent(0, 1), Due.NONE);
    }

    /** A house whose sheet 2 holds nobody's violin for each of three players, but n for this one. */
    private static LentFiddles wanting(LentFiddles x, int player, int n) {
        Due.fill(x, 2, 2, -1, -1, -1);
        x.put(2, player, n);
        return x;
    }

    /**
     * Promises 11, 12: where nobody has one, all quarrel: 2 and 3 with player 0, 1 and 3 with 1, 0, 2, 3 with 2; where
     * player 2 has violin 3, he does with 0 alone.
     */
    private static void sheetsOfLendings() {
        row(11, "sheet", (x, n) -> x.quarrels(n, 0, 0), -1, Due.UNKNOWN, 7, Due.CAST, Due.CAST, Due.NULL, Due.UNKNOWN);
        row(12, "sheet", (x, n) -> x.quarrel(n, 0, 0, 0),
            -1, Due.UNKNOWN, 2, Due.CAST, Due.CAST, Due.NULL, Due.UNKNOWN);
        nothing(11, (x, n) -> x.quarrels(n, 0, 0));
        row(11, "lane", (x, n) -> x.quarrels(0, n, 0), -1, Due.OUTSIDE, 7, Due.CAST, Due.CAST, Due.OUTSIDE);
        outside(11, "lane, nothing there", (x, n) -> x.quarrels(3, n, 0), 0, Due.NULL, 2, Due.NULL);
        edge(11, "i", House::furnished, (x, n) -> x.quarrels(0, 0, n), Due.INDEX, 0, 7, 2, 5, Due.INDEX);
        outside(11, "a cell", (x, n) -> wanting(x, 2, n).quarrels(2, 2, 0), -1, 7, 3, 5);
        outside(11, "a cell", (x, n) -> wanting(x, 1, n).quarrels(2, 2, 0), -1, 7, -1, 7);
        unknown(12, "n", (x, n) -> x.quarrel(0, 0, 0, n), 0, 2, 6, 23);
        outside(12, "lane, nothing there", (x, n) -> x.quarrel(3, n, 0, 0), 0, Due.NULL, 2, Due.NULL);
        nothing(12, (x, n) -> x.quarrel(n, 0, 0, 0));
        edge(12, "i", House::furnished, (x, n) -> x.quarrel(0, 0, n, 4), Due.INDEX, 0, 20, 2, 20, Due.INDEX);
        outside(12, "a cell", (x, n) -> wanting(x, 2, n).quarrel(2, 2, 0, 0), -1, 2, 3, 2);
        ofNobody();
    }

    /** Promise 11: with no player no cell is taken; i is from 0 to how many there are all the same. */
    private static void ofNobody() {
        Supplier<LentFiddles> house = () -> {
            LentFiddles x = House.empty();
            x.sheet(0, 0, 4);
            x.sheet(1, 0, 0);
            x.sheet(2, 2, 60);
            return x;
        };
        edge(11, "i of four, nobody", house, (x, n) -> x.quarrels(0, 0, n), Due.INDEX, 0, 0, 4, 0, Due.INDEX);
        edge(11, "i of none, nobody", house, (x, n) -> x.quarrels(1, 0, n), Due.INDEX, 0, 0, 0, 0, Due.INDEX);
        edge(11, "i of sixty, nobody", house, (x, n) -> x.quarrels(2, 2, n), Due.INDEX, 0, 0, 60, 0, Due.INDEX);
        edge(12, "i of four, nobody", house, (x, n) -> x.quarrel(0, 0, n, 0),
            Due.INDEX, 0, Due.UNKNOWN, 4, Due.UNKNOWN, Due.INDEX);
        edge(22, "i of four, nobody", house, (x, n) -> x.days(0, 1, 0, 0, n), Due.INDEX, 0, 0, 4, 0, Due.INDEX);
    }

    // ---- 2 loans, looks, moves

    /** Promises 13 to 17. */
    private static void loans() {
        unknown(13, "player", (x, n) -> x.lend(n, 3, 100, 100), 0, 3, 2, 3);
        unknown(13, "violin", (x, n) -> x.lend(2, n, 100, 100), 0, 3, 3, 3);
        outside(13, "from", (x, n) -> x.lend(2, 3, n, 100000), 0, 3, 100000, 3);
        outside(13, "from, no later than to", (x, n) -> x.lend(2, 3, n, 77), 0, 3, 77, 3);
        outside(13, "to, no earlier than from", (x, n) -> x.lend(2, 3, 0, n), 0, 3, 100000, 3);
        outside(13, "to, no earlier than from", (x, n) -> x.lend(2, 3, 77, n), 77, 3, 100000, 3);
        LentFiddles full = House.full();
        due.is(13, "the fortieth stands", full.loan(39, 2), 39);
        due.is(13, "the 41st", full.lend(0, 9, 1000, 1000), Due.FULL);
        due.is(14, "one ends", full.back(39, 39), 39);
        due.is(13, "forty ever", full.lend(0, 9, 1000, 1000), Due.FULL);
        due.is(50, "forty", full.many(2), 40);
        row(14, "loan", (x, n) -> x.back(n, 31), -1, Due.UNKNOWN, Due.OUTSIDE, Due.OUTSIDE, 40, Due.UNKNOWN);
        unknown(14, "loan, day below", (x, n) -> x.back(n, 9), 0, Due.OUTSIDE, 2, Due.OUTSIDE);
        outside(14, "day", (x, n) -> x.back(0, n), 10, 20, 20, 20);
        outside(14, "day, what to is", (x, n) -> x.back(0, n) < 0 ? Due.OUTSIDE : x.loan(0, 3), 10, 10, 20, 20);
        unknown(15, "loan", (x, n) -> x.warn(n, 5), 0, 1, 2, 1);
        outside(15, "day", (x, n) -> x.warn(0, n), 0, 1, 100000, 1);
        outside(15, "day told", (x, n) -> x.warn(0, n) < 0 ? Due.OUTSIDE : x.loan(0, 4), 0, 0, 100000, 100000);
        unknown(16, "loan", (x, n) -> x.loan(n, 2), 0, 10, 2, 31);
        outside(16, "what", (x, n) -> x.loan(0, n), 0, 0, 5, 8);
        outside(17, "who", (x, n) -> x.on(n, 0, 35), 0, Due.NONE, 1, 2);
        unknown(17, "violin", (x, n) -> x.on(0, n, 15), 0, 0, 3, Due.NONE);
        unknown(17, "player", (x, n) -> x.on(1, n, 15), 0, 0, 2, Due.NONE);
        outside(17, "day", (x, n) -> x.on(0, 0, n), 0, Due.NONE, 100000, Due.NONE);
        outside(17, "day had", (x, n) -> x.lend(2, 3, 0, 100000) < 0 ? 0 : x.on(0, 3, n), 0, 3, 100000, 3);
    }

    /** Promises 18 to 21. */
    private static void looks() {
        unknown(18, "violin", (x, n) -> x.look(n, 100, 0), 0, 4, 3, 4);
        outside(18, "day", (x, n) -> x.look(3, n, 0), 0, 4, 100000, 4);
        outside(18, "cracks", (x, n) -> x.look(3, 0, n), 0, 4, 65535, 4);
        due.is(18, "the 41st", House.full().look(0, 1000, 0), Due.FULL);
        due.is(50, "forty", House.full().many(3), 40);
        unknown(19, "violin", (x, n) -> x.born(n, 15, 1), 0, Due.NONE, 3, Due.NONE);
        unknown(19, "crack", (x, n) -> x.born(1, n, 1), 0, Due.NONE, 15, 7);
        outside(19, "end", (x, n) -> x.born(0, 1, n), 0, 16, 1, 25);
        outside(19, "end, no crack", (x, n) -> x.born(0, 5, n), 0, Due.NONE, 1, Due.NONE);
        outside(19, "the look's day", (x, n) -> x.look(3, n, 1) < 0 ? Due.OUTSIDE : x.born(3, 0, 1),
            0, 0, 100000, 100000);
        outside(19, "the first day ever", (x, n) -> x.look(3, n, 1) < 0 ? Due.OUTSIDE : x.born(3, 0, 0),
            0, 0, 100000, 0);
        unknown(20, "violin", (x, n) -> x.blame(n, 0), 0, 0, 3, Due.NONE);
        unknown(20, "crack", (x, n) -> x.blame(0, n), 0, 0, 15, Due.NONE);
        unknown(21, "violin", (x, n) -> x.wrongs(n), 0, 1, 3, 0);
    }

    /** Promise 22. */
    private static void moves() {
        outside(22, "day", (x, n) -> x.days(n, 1, 0, 0, 0), 0, 0, 100000, 0);
        outside(22, "hands", (x, n) -> x.days(15, n, 0, 0, 2), 1, 2, 9, 1);
        edge(22, "i", House::furnished, (x, n) -> x.days(15, 1, 0, 0, n), Due.INDEX, 0, 1, 2, 2, Due.INDEX);
        nothing(22, (x, n) -> x.days(0, 1, n, 0, 0));
        outside(22, "lane, nothing there", (x, n) -> x.days(0, 1, 3, n, 0), 0, Due.NULL, 2, Due.NULL);
        outside(22, "a cell", (x, n) -> wanting(x, 2, n).days(0, 1, 2, 2, 0), -1, 0, 3, 1);
        outside(22, "a cell", (x, n) -> wanting(x, 0, n).days(0, 1, 2, 2, 0), -1, 0, 3, 1);
        outside(22, "a day with a loan", (x, n) -> x.lend(2, 3, 0, 100000) < 0 ? 0 : x.days(n, 1, 0, 0, 0),
            0, 1, 100000, 1);
        due.is(22, "a violin for two", twoWanting(2, 2), Due.OUTSIDE);
        due.is(22, "none for two", twoWanting(-1, -1), 0);
        due.is(22, "one each", twoWanting(2, 3), 2);
    }

    private static long twoWanting(int one, int other) {
        LentFiddles x = wanting(House.furnished(), 0, one);
        x.put(2, 2, other);
        return x.days(0, 1, 2, 2, 0);
    }

    // ---- 3 holders

    /** Promises 23 to 26. */
    private static void holders() {
        unknown(23, "violin", (x, n) -> x.holder(n, 0, 1500, 1500), 0, 4, 3, 4);
        outside(23, "name", (x, n) -> x.holder(0, n, 1500, 1500), 0, 4, 99, 4);
        outside(23, "from", (x, n) -> x.holder(0, 0, n, 2100), 1500, 4, 2100, 4);
        outside(23, "from, no later than to", (x, n) -> x.holder(0, 0, n, 1800), 1500, 4, 1800, 4);
        outside(23, "to, no earlier than from", (x, n) -> x.holder(0, 0, 1500, n), 1500, 4, 2100, 4);
        outside(23, "to, no earlier than from", (x, n) -> x.holder(0, 0, 1800, n), 1800, 4, 2100, 4);
        due.is(23, "the 41st", House.full().holder(0, 0, 1500, 1500), Due.FULL);
        due.is(50, "forty", House.full().many(4), 40);
        unknown(24, "violin", (x, n) -> x.gaps(n, 0), 0, 2, 3, 0);
        outside(24, "what", (x, n) -> x.gaps(0, n), 0, 2, 1, 1);
        row(25, "violin", (x, n) -> x.gap(n, 0, 0),
            -1, Due.UNKNOWN, 1711, Due.UNKNOWN, Due.UNKNOWN, Due.UNKNOWN, Due.UNKNOWN);
        unknown(25, "i", (x, n) -> x.gap(0, n, 0), 0, 1711, 1, 1731);
        outside(25, "end", (x, n) -> x.gap(0, 1, n), 0, 1731, 1, 1739);
        unknown(26, "violin", (x, n) -> x.claim(n, 1, 1709), 0, 2, 3, 0);
        outside(26, "name", (x, n) -> x.claim(0, n, 1715), 0, 1, 99, 1);
        outside(26, "year", (x, n) -> x.claim(0, 1, n), 1500, 0, 2100, 0);
        outside(26, "year had", (x, n) -> {
            x.holder(3, 0, 1500, 2100);
            x.holder(3, 1, 1500, 2100);
            return x.claim(3, 0, n);
        }, 1500, 1, 2100, 1);
        outside(26, "name had", (x, n) -> {
            x.holder(3, n, 1500, 2100);
            x.holder(3, 50, 1600, 2100);
            return x.claim(3, n, 1500);
        }, 0, 2, 99, 2);
    }

    // ---- 4 trips, damp

    /** Promises 27 to 32. */
    private static void trips() {
        unknown(27, "violin", (x, n) -> x.trip(n, 100, 0), 0, 4, 3, 4);
        outside(27, "day", (x, n) -> x.trip(3, n, 0), 0, 4, 100000, 4);
        outside(27, "plane", (x, n) -> x.trip(3, 0, n), -1, 4, 1, 4);
        due.is(27, "the 41st", House.full().trip(0, 1000, 0), Due.FULL);
        due.is(50, "forty", House.full().many(5), 40);
        unknown(28, "trip", (x, n) -> x.fix(n, 0), 0, Due.NONE, 3, 1);
        outside(28, "plane", (x, n) -> x.fix(3, n), -1, 1, 1, 1);
        outside(28, "plane told", (x, n) -> x.fix(3, n) < 0 ? Due.OUTSIDE : x.fix(3, 0), -1, Due.NONE, 1, 1);
        outside(29, "day", (x, n) -> x.spread(n), 0, 0, 100000, 0);
        outside(29, "day with a trip", (x, n) -> x.trip(3, n, 1) < 0 ? Due.OUTSIDE : x.spread(n), 0, 1, 100000, 1);
        unknown(30, "trip", (x, n) -> x.plane(n), 0, 1, 3, 1);
        outside(31, "limit", (x, n) -> x.limit(n), 1, 5000, 100000000, 5000);
        outside(31, "limit told", (x, n) -> x.limit(n) < 0 ? Due.OUTSIDE : x.limit(7), 1, 1, 100000000, 100000000);
        due.is(31, "at first", House.empty().limit(1), 1000000);
        overTheLimit();
    }

    /** Promise 32: day 12 has a spread of 1000000, day 13 one of 12345; a spread that is like the limit is not over. */
    private static void overTheLimit() {
        int[][] limits = {{1, 2}, {12344, 2}, {12345, 1}, {12346, 1}, {999999, 1}, {1000000, 0}, {100000000, 0}};
        for (int[] limit : limits) {
            LentFiddles x = House.furnished();
            x.limit(limit[0]);
            due.is(32, "over " + limit[0], x.over(), limit[1]);
        }
    }

    private static LentFiddles with(LentFiddles x, int lane, int... cells) {
        Due.fill(x, 3, lane, cells);
        return x;
    }

    /** Promise 33. */
    private static void damp() {
        nothing(33, (x, n) -> x.damp(n, 0, 0, 0, 0, 0, 0));
        outside(33, "lane, nothing there", (x, n) -> x.damp(3, n, 0, 0, 0, 0, 0), 0, Due.NULL, 2, Due.NULL);
        edge(33, "i", House::furnished, (x, n) -> x.damp(0, 0, n, 2, 0, 100, 0), Due.INDEX, 0, 2, 3, 1, Due.INDEX);
        edge(33, "i, none taken", House::furnished, (x, n) -> x.damp(0, 0, n, 0, 0, 100, 0),
            Due.INDEX, 0, 0, 5, 0, Due.INDEX);
        edge(33, "n", House::furnished, (x, n) -> x.damp(0, 0, 0, n, 0, 100, 0), Due.SIZE, 0, 0, 5, 4, Due.INDEX);
        edge(33, "n from 3 on", House::furnished, (x, n) -> x.damp(0, 0, 3, n, 0, 100, 0),
            Due.SIZE, 0, 0, 2, 1, Due.INDEX);
        outside(33, "a", (x, n) -> with(x, 0, 0, 100).damp(3, 0, 0, 2, n, 100, 0), 0, 0, 100, 1);
        outside(33, "a, not above b", (x, n) -> with(x, 0, 0, 50).damp(3, 0, 0, 2, n, 50, 0), 0, 0, 50, 1);
        outside(33, "b", (x, n) -> with(x, 0, 0, 100).damp(3, 0, 0, 2, 0, n, 0), 0, 1, 100, 0);
        outside(33, "b, not below a", (x, n) -> with(x, 0, 50, 100).damp(3, 0, 0, 2, 50, n, 0), 50, 1, 100, 0);
        outside(33, "what", (x, n) -> with(x, 0, -1, -1, 50, 9).damp(3, 0, 0, 4, 50, 50, n), 0, 2, 1, 1);
        outside(33, "an hour", (x, n) -> with(x, 2, 20, n).damp(3, 2, 0, 2, 0, 100, 0), -1, 1, 100, 0);
        outside(33, "the first hour", (x, n) -> with(x, 2, n, 20).damp(3, 2, 0, 2, 0, 100, 0), -1, 1, 100, 0);
        outside(33, "an hour of WORST", (x, n) -> with(x, 2, 20, n).damp(3, 2, 0, 2, 5, 50, 1), -1, 0, 100, 1);
        for (int hour = 0; hour <= 100; hour++) {
            LentFiddles x = with(House.empty(), 0, hour);
            due.is(33, hour + " is fair from 40 to 60", x.damp(3, 0, 0, 1, 40, 60, 0), hour < 40 || hour > 60 ? 1 : 0);
        }
    }

    // ---- 5 rings

    private static LentFiddles sixty(LentFiddles x) {
        x.sheet(3, 0, 60);
        for (int i = 0; i < 60; i++) {
            x.put(3, i, 1 + i);
        }
        return x;
    }

    /** Promise 34. */
    private static void rings() {
        unknown(34, "violin", (x, n) -> x.rings(n, 1, 1, 0, 2), 0, 2, 3, 2);
        nothing(34, (x, n) -> x.rings(0, n, 0, 0, 0));
        outside(34, "lane, nothing there", (x, n) -> x.rings(0, 3, n, 0, 0), 0, Due.NULL, 2, Due.NULL);
        edge(34, "i", House::furnished, (x, n) -> x.rings(0, 1, 1, n, 2), Due.INDEX, 0, 2, 5, 2, Due.INDEX);
        edge(34, "i, none taken", House::furnished, (x, n) -> x.rings(0, 1, 1, n, 0), Due.INDEX, 0, 0, 7, 0, Due.INDEX);
        edge(34, "n", House::furnished, (x, n) -> x.rings(0, 1, 1, 0, n), Due.SIZE, 0, 0, 7, 7, Due.INDEX);
        due.is(34, "twenty", sixty(House.furnished()).rings(0, 3, 0, 0, 20), 20);
        due.is(34, "21", sixty(House.furnished()).rings(0, 3, 0, 0, 21), Due.OUTSIDE);
        due.is(34, "60", sixty(House.furnished()).rings(0, 3, 0, 0, 60), Due.OUTSIDE);
        due.is(34, "61: index comes ahead", sixty(House.furnished()).rings(0, 3, 0, 0, 61), Due.INDEX);
        due.is(34, "twenty at the end", sixty(House.furnished()).rings(0, 3, 0, 40, 20), 20);
        outside(34, "a width", (x, n) -> with(x, 2, 9, n).rings(0, 3, 2, 0, 2), 1, 2, 255, 2);
        outside(34, "the first width", (x, n) -> with(x, 2, n, 9).rings(0, 3, 2, 0, 2), 1, 2, 255, 2);
    }

    /** Promise 35. */
    private static void oak() {
        nothing(35, (x, n) -> x.oak(n, 0, 0, 0, 0));
        outside(35, "lane, nothing there", (x, n) -> x.oak(3, n, 0, 0, 0), 0, Due.NULL, 2, Due.NULL);
        edge(35, "i", House::furnished, (x, n) -> x.oak(1, 1, n, 2, 0), Due.INDEX, 0, 2, 5, 2, Due.INDEX);
        edge(35, "i, none taken", House::furnished, (x, n) -> x.oak(1, 1, n, 0, 0), Due.INDEX, 0, 0, 7, 0, Due.INDEX);
        edge(35, "n", House::furnished, (x, n) -> x.oak(1, 1, 0, n, 0), Due.SIZE, 0, 0, 7, 7, Due.INDEX);
        edge(35, "n of sixty", () -> sixty(House.empty()), (x, n) -> x.oak(3, 0, 0, n, 0),
            Due.SIZE, 0, 0, 60, 60, Due.INDEX);
        outside(35, "start", (x, n) -> x.oak(1, 1, 0, 7, n), 0, 7, 2100, 7);
        outside(37, "year by start", (x, n) -> x.oak(1, 1, 0, 7, n) < 0 ? Due.OUTSIDE : x.best(0, 2), 0, 6, 2100, 2106);
        outside(35, "a width", (x, n) -> with(x, 2, 9, n).oak(3, 2, 0, 2, 0), 1, 2, 255, 2);
        outside(35, "the first width", (x, n) -> with(x, 2, n, 9).oak(3, 2, 0, 2, 0), 1, 2, 255, 2);
    }

    /** Promises 36 to 38: violin 0 has seven rings, violin 1 six, the oak six. */
    private static void laid() {
        lost(36, "violin", (x, n) -> x.laid(n, 0, 1), 0, 5, 1, 5);
        lost(36, "k", (x, n) -> x.laid(0, n, 1), -6, 0, 5, 0);
        lost(36, "k of one less", (x, n) -> x.laid(1, n, 1), -5, 0, 5, 0);
        lost(36, "k, match", (x, n) -> x.laid(0, n, 0), -6, 0, 5, 0);
        lost(36, "what", (x, n) -> x.laid(0, 0, n), 0, 5, 1, 5);
        due.is(36, "one step", House.furnished().laid(0, -5, 1), 1);
        due.is(36, "one step", House.furnished().laid(0, 4, 1), 1);
        lost(36, "k, one ring and one", (x, n) -> {
            x.oak(1, 1, 0, 1, 0);
            x.rings(0, 1, 1, 0, 1);
            return x.laid(0, n, 0);
        }, 0, 0, 0, 0);
        lost(37, "violin", (x, n) -> x.best(n, 0), 0, 0, 1, 0);
        lost(37, "what", (x, n) -> x.best(0, n), 0, 0, 2, 1706);
        unknown(38, "the one", (x, n) -> x.oneTree(n, 2), 0, 0, 3, 0);
        unknown(38, "the other", (x, n) -> x.oneTree(2, n), 0, 0, 3, 0);
        due.is(38, "five steps agree", House.furnished().oneTree(0, 1), 1);
    }

    // ---- 6 the contract

    /** Promises 39, 40. */
    private static void contract() {
        nothing(39, (x, n) -> x.contract(n, 0, 0, 0));
        outside(39, "lane, nothing there", (x, n) -> x.contract(3, n, 0, 0), 0, Due.NULL, 2, Due.NULL);
        edge(39, "i", House::furnished, (x, n) -> x.contract(0, 0, n, 1), Due.INDEX, 0, -100, 4, -100, Due.INDEX);
        edge(39, "i, none taken", House::furnished, (x, n) -> x.contract(0, 0, n, 0), Due.INDEX, 0, 0, 5, 0, Due.INDEX);
        edge(39, "n", House::furnished, (x, n) -> x.contract(0, 0, 0, n), Due.SIZE, 0, 0, 5, -100, Due.INDEX);
        unknown(40, "letter", (x, n) -> x.clause(n), 0, Due.NONE, 3, 3);
        for (int sign = -1; sign <= 256; sign++) {
            boolean letter = sign == 'A' || sign == 'B' || sign == 'H' || sign == 'Y';
            boolean digit = sign >= 48 && sign <= 57;
            isSign("the first sign", letter ? -101 : -100, sign);
            isSign("behind a letter", digit ? 1 : -101, 65, sign);
            isSign("behind a digit", digit ? 1 : sign == 59 ? -103 : -102, 65, 49, sign);
            isSign("behind a 0", sign == 59 ? -103 : -102, 65, 48, sign);
            isSign("behind two digits", digit ? 1 : sign == 59 ? -104 : -103, 65, 49, 48, sign);
            isSign("behind three digits", sign == 59 ? -105 : -104, 65, 49, 48, 48, sign);
            isSign("behind a parting", letter && sign != 65 ? -104 : -103, 65, 49, 59, sign);
            isSign("behind all letters", -111, 65, 49, 59, 66, 49, 59, 72, 49, 59, 89, 48, sign);
        }
        for (int n = 0; n <= 999; n++) {
            LentFiddles x = House.empty();
            String text = "H" + n;
            Due.write(x, 3, text);
            due.is(39, text, x.contract(3, 0, 0, text.length()), 1);
            due.is(40, text, x.clause(2), n);
        }
    }

    private static void isSign(String where, long want, int... signs) {
        LentFiddles x = with(House.empty(), 2, signs);
        due.is(39, where + " " + signs[signs.length - 1], x.contract(3, 2, 0, signs.length), want);
    }

    // ---- sheets, parts

    /** Promises 41 to 44. */
    private static void sheets() {
        unknown(41, "sheet", (x, n) -> x.sheet(n, 0, 1), 0, 1, 3, 1);
        outside(41, "lane", (x, n) -> x.sheet(0, n, 1), 0, 1, 2, 1);
        edge(41, "n", House::furnished, (x, n) -> x.sheet(0, 0, n), Due.SIZE, 0, 1, 60, 1, Due.OUTSIDE);
        lost(41, "cells of sixty", (x, n) -> x.sheet(0, 0, 60) == 1 ? x.at(0, n, 0) : 9, 0, 0, 59, 0);
        unknown(42, "sheet", (x, n) -> x.lose(n), 0, 1, 3, 0);
        unknown(43, "sheet", (x, n) -> x.put(n, 0, 0), 0, 1, 3, Due.NULL);
        edge(43, "i", House::furnished, (x, n) -> x.put(1, n, 0), Due.INDEX, 0, 1, 6, 1, Due.INDEX);
        edge(43, "i of none", House::furnished, (x, n) -> x.sheet(1, 0, 0) == 1 ? x.put(1, n, 0) : 9,
            Due.INDEX, 0, Due.INDEX, 0, Due.INDEX, Due.INDEX);
        cut(0, -128, 127, 128, -128);
        cut(1, -32768, 32767, 32768, -32768);
        due.is(43, "ints are not cut", with(House.empty(), 2, Due.LEAST).at(3, 0, 2), Due.LEAST);
        due.is(43, "ints are not cut", with(House.empty(), 2, Due.MOST).at(3, 0, 2), Due.MOST);
        lost(44, "sheet", (x, n) -> x.at(n, 0, n), 0, -1, 2, 0);
        lost(44, "i", (x, n) -> x.at(1, n, 1), 0, 1, 6, 2);
        row(44, "lane", (x, n) -> x.at(1, 0, n), -1, Due.LOST, Due.LOST, 1, Due.LOST, Due.LOST);
        int[] faults = {0, 2, 0, 2, 0};
        for (int lane = -1; lane <= 3; lane++) {
            LentFiddles x = House.furnished();
            x.at(1, 0, lane);
            due.is(44, "fault of lane " + lane, x.fault(), faults[lane + 1]);
        }
    }

    /** The least and the greatest that a lane holds stay as they are; the next ones come in at its other end. */
    private static void cut(int lane, int least, int most, int above, int asAbove) {
        due.is(43, "the least of lane " + lane, with(House.empty(), lane, least).at(3, 0, lane), least);
        due.is(43, "the most of lane " + lane, with(House.empty(), lane, most).at(3, 0, lane), most);
        due.is(43, "above it", with(House.empty(), lane, above).at(3, 0, lane), asAbove);
        due.is(43, "below it", with(House.empty(), lane, least - 1).at(3, 0, lane), most);
        due.is(43, "far above", with(House.empty(), lane, 2 * above).at(3, 0, lane), 0);
        due.is(43, "the least int", with(House.empty(), lane, Due.LEAST).at(3, 0, lane), 0);
        due.is(43, "the greatest int", with(House.empty(), lane, Due.MOST).at(3, 0, lane), -1);
    }

    /** Promises 45 to 47, 50. */
    private static void parts() {
        unknown(45, "violin", (x, n) -> x.tell(n), 0, 7 + 7 + 7, 3, 0);
        unknown(46, "violin", (x, n) -> x.praise(n), 0, 70, 3, 3);
        unknown(47, "violin", (x, n) -> x.as(n, 0), 0, 1, 3, 1);
        outside(47, "kind", (x, n) -> x.as(0, n), 0, 1, 2, 1);
        outside(47, "kind of a PLAIN one", (x, n) -> x.as(2, n), 0, 1, 2, Due.CAST);
        outside(47, "kind of an OLD one", (x, n) -> x.as(1, n), 0, 1, 2, Due.CAST);
        due.is(47, "an OLD one as OLD", House.furnished().as(1, 1), 1);
        due.is(47, "a PLAIN one as OLD", House.furnished().as(2, 1), Due.CAST);
        outside(50, "what", (x, n) -> x.many(n), 0, 4, 7, 2);
    }
}
