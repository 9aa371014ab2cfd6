import java.util.Random;
import java.util.TreeMap;
import java.util.TreeSet;

/**
 * Long runs of all calls, up to the 512th, on the class and on a slow house that follows the document sentence by
 * sentence: each answer, and fault() and trace() behind it, is the same. In the end each promise must have answered in
 * each way that the document tells of it.
 */
public final class WholeHouseTest {
    private static final Due due = new Due();
    private static final int RUNS = 700, CALLS = 512, PARTS = 7;
    /** Room for the longest question, of a sheet of 60 cells, and for what is read in the end. */
    private static final int LAST_CALLS = 120;
    private static final int[] WILD = {Due.LEAST, Due.LEAST + 1, -32, -10, -2, 32, 64, 1000, 65536, 100001, 1000001,
        100000001, Due.MOST - 60, Due.MOST - 1, Due.MOST};
    private static final String TEXTS = "A0 A3 A12;B7 B30;H40 H99 Y10;A1 Y365;B5;H2;A1 B0;A2;H50;Y5 A B1;B2 A01 Y1000 "
        + "H5; ;A1 A1;;B1 A1;Y2;H3;B4; C1 a1 B12H A1,B2 Y9;A0;B3;H7 H7;Y20;B14";
    /** How each promise can answer: 1 from 0 on, "c" a contract's fault place, "L" LOST, else the refusal. */
    private static final String[] WAYS = {
        "2: 1 -2 -4", "3: 1 -2 -4", "4: 1 -1 -2", "5: 1 -1 -2", "6: 1 -1", "7: 1 -1 -2", "8: 1 -1 -2", "9: 1",
        "10: 1 -9 -1 -2", "11: 1 -1 -2 -11 -12 -13", "12: 1 -1 -2 -11 -12 -13", "13: 1 -1 -2 -3 -4", "14: 1 -1 -2",
        "15: 1 -1 -2", "16: 1 -1 -2 -9", "17: 1 -1 -2 -9", "18: 1 -1 -2 -3 -4", "19: 1 -1 -2 -9", "20: 1 -1 -9",
        "21: 1 -1", "22: 1 -1 -2 -11 -12 -13", "23: 1 -1 -2 -4", "24: 1 -1 -2", "25: 1 -1 -2", "26: 1 -1 -2",
        "27: 1 -1 -2 -3 -4", "28: 1 -9 -1 -2", "29: 1 -2", "30: 1 -1", "31: 1 -2", "32: 1",
        "33: 1 -1 -2 -11 -12 -13 -14", "34: 1 -1 -2 -11 -12 -13 -14", "35: 1 -1 -2 -11 -12 -13 -14", "36: 1 L",
        "37: 1 L", "38: 1 -1 -3", "39: 1 c -1 -2 -11 -12 -13 -14", "40: 1 -9 -1", "41: 1 -1 -2 -14", "42: 1 -1",
        "43: 1 -1 -11 -13", "44: 1 L", "45: 1 -1", "46: 1 -1", "47: 1 -1 -2 -12", "48: 1", "49: 1", "50: 1 -2"};

    private static final TreeMap<Integer, TreeSet<String>> seen = new TreeMap<>();
    private static final TreeMap<Integer, TreeSet<Long>> answers = new TreeMap<>();

    private final Random random;
    private final LentFiddles x = new LentFiddles();
    private final SlowHouse slow = new SlowHouse();
    private final long seed;
    /** In how many of a hundred numbers one beyond what is told. */
    private final int wildness;
    /** The days, years and numbers of a run are few, so that they meet. */
    private final int lastDay, lastYear, violins, players;
    private int calls = 0;

    private WholeHouseTest(long seed) {
        this.seed = seed;
        random = new Random(seed);
        wildness = below(3) == 0 ? 0 : below(8);
        lastDay = below(3) == 0 ? 300 : 4 + below(20);
        lastYear = 1503 + below(60);
        violins = below(4) == 0 ? 10 : below(11);
        players = below(4) == 0 ? 10 : below(7);
    }

    public static void main(String[] args) {
        for (int run = 0; run < RUNS; run++) {
            new WholeHouseTest(run).run();
        }
        for (String ways : WAYS) {
            String[] parts = ways.split(": ");
            int promise = Integer.parseInt(parts[0]);
            for (String way : parts[1].split(" ")) {
                due.is(promise, "the runs come to " + way, seen.getOrDefault(promise, new TreeSet<>()).contains(way) ? 1 : 0, 1);
            }
            due.is(promise, "no other way than " + ways, seen.get(promise).size(), parts[1].split(" ").length);
        }
        for (long claim = 0; claim <= 2; claim++) {
            due.is(26, "claims of all kinds", answers.get(26).contains(claim) ? 1 : 0, 1);
        }
        for (long fault = 0; fault <= 4; fault++) {
            due.is(49, "faults of all kinds", answers.get(49).contains(fault) ? 1 : 0, 1);
        }
        due.end();
    }

    // ---- numbers

    private int below(int n) {
        return random.nextInt(n);
    }

    /** From low to high; now and then one of the ends, and in a wild run one beyond them. */
    private int some(int low, int high) {
        int dice = below(100);
        if (dice < wildness) {
            int beyond = below(3);
            return beyond == 0 ? low - 1 : beyond == 1 ? high + 1 : WILD[below(WILD.length)];
        }
        if (dice >= 97) {
            return below(2) == 0 ? low : high;
        }
        return low + below(Math.max(1, high - low + 1));
    }

    private int someOf(int what) {
        int count = slow.many(what);
        return some(0, below(20) == 0 ? count : Math.max(0, count - 1));
    }

    private int someViolin() {
        return someOf(0);
    }

    private int somePlayer() {
        return someOf(1);
    }

    private int day() {
        return below(100) < wildness ? anyOf(0, 100000) : below(lastDay + 1);
    }

    private int year() {
        return below(100) < wildness ? anyOf(1500, 2100) : 1500 + below(lastYear - 1499);
    }

    private int anyOf(int low, int high) {
        return below(2) == 0 ? some(low, high) : below(2) == 0 ? low - 1 : high + 1;
    }

    private int sheetNumber() {
        return some(0, 3);
    }

    private int lane() {
        return some(0, 2);
    }

    // ---- how a call is compared

    private void same(int promise, String call, long got, long want, int... numbers) {
        calls++;
        if (got != want) {
            StringBuilder text = new StringBuilder("run " + seed + ", call " + calls + ": " + call);
            for (int number : numbers) {
                text.append(' ').append(number);
            }
            call = text.toString();
        }
        due.is(promise, call, got, want);
        String way = want >= 0 ? "1" : Long.toString(want);
        if (promise == 36 || promise == 37 || promise == 44) {
            way = want == Due.LOST ? "L" : "1";
        } else if (promise == 39 && want <= -100) {
            way = "c";
        } else if (promise == 45 || promise == 48) {
            way = want == Due.UNKNOWN && promise == 45 ? "-1" : "1";
        }
        seen.computeIfAbsent(promise, p -> new TreeSet<>()).add(way);
        if (promise == 26 || promise == 49) {
            answers.computeIfAbsent(promise, p -> new TreeSet<>()).add(want);
        }
    }

    private void run() {
        furnish();
        int focus = below(PARTS);
        while (calls < CALLS - LAST_CALLS) {
            ask(below(3) > 0 ? focus : below(PARTS));
            if (below(3) == 0) {
                same(49, "fault", x.fault(), slow.fault());
            }
        }
        readAll();
        due.is(0, "calls of run " + seed, calls <= CALLS ? 1 : 0, 1);
    }

    private void furnish() {
        for (int v = 0; v < violins; v++) {
            violin();
        }
        for (int p = 0; p < players; p++) {
            player();
        }
        int many = Math.min(100, 2 * violins * players);
        for (int n = 0; n < many; n++) {
            trial();
        }
        if (below(6) == 0) {
            crowd(below(4));
        }
    }

    /** Until there is no room for more. */
    private void crowd(int which) {
        for (int n = 0; n < (which == 0 ? 80 : 50); n++) {
            int v = (n + n / 10) % 10;
            switch (which) {
                case 0: lendOneMore(n % 10, v, n); break;
                case 1: same(18, "look", x.look(v, n, n), slow.look(v, n, n), v, n, n); break;
                case 2: same(23, "holder", x.holder(v, n, 1600, 1600), slow.holder(v, n, 1600, 1600), v, n); break;
                default: same(27, "trip", x.trip(v, n / 10, -1), slow.trip(v, n / 10, -1), v, n / 10); break;
            }
        }
    }

    private void lendOneMore(int p, int v, int day) {
        same(4, "trial", x.trial(p, v, 1 + day), slow.trial(p, v, 1 + day), p, v, 1 + day);
        same(13, "lend", x.lend(p, v, day, day), slow.lend(p, v, day, day), p, v, day);
    }

    private void ask(int part) {
        switch (part) {
            case 0: askViolins(below(12)); break;
            case 1: askLoans(below(14)); break;
            case 2: askHolders(below(9)); break;
            case 3: askTrips(below(10)); break;
            case 4: askRings(below(10)); break;
            case 5: askContract(below(6)); break;
            default: askSheets(below(13)); break;
        }
    }

    // ---- 1

    private void violin() {
        int kind = some(0, 2);
        int maker = some(0, 9);
        int worth = below(4) == 0 ? some(1, 1000000) : 1 + below(20);
        same(2, "violin", x.violin(kind, maker, worth), slow.violin(kind, maker, worth), kind, maker, worth);
    }

    private void player() {
        int rank = below(3) == 0 ? some(0, 99) : below(4);
        same(3, "player", x.player(rank), slow.player(rank), rank);
    }

    private void trial() {
        int p = somePlayer();
        int v = someViolin();
        int t = below(4) == 0 ? some(0, 99) : below(6);
        same(4, "trial", x.trial(p, v, t), slow.trial(p, v, t), p, v, t);
    }

    private void askViolins(int call) {
        int p = somePlayer();
        int v = someViolin();
        int what = some(0, 7);
        boolean is = below(3) > 0;
        switch (call) {
            case 0: violin(); break;
            case 1: player(); break;
            case 2: trial(); break;
            case 3: same(5, "had " + is, x.had(p, what, is), slow.had(p, what, is), p, what); break;
            case 4: same(6, "may", x.may(p, v), slow.may(p, v), p, v); break;
            case 5: same(7, "ofViolin", x.ofViolin(v, what), slow.ofViolin(v, what), v, what); break;
            case 6: same(8, "ofPlayer", x.ofPlayer(p, what / 2), slow.ofPlayer(p, what / 2), p, what / 2); break;
            case 7: same(9, "sum", x.sum(), slow.sum()); break;
            case 8:
            case 9: lent(p); break;
            default: quarrels(); break;
        }
    }

    private void lent(int p) {
        int which = some(0, 1);
        same(10, "lent", x.lent(p, which), slow.lent(p, which), p, which);
    }

    /** A row of violins, none twice, mostly those that players may have. */
    private int[] row(boolean asLending) {
        int[] row = new int[slow.many(1)];
        int used = 0;
        for (int p = 0; p < row.length; p++) {
            int set = asLending ? slow.ofPlayer(p, 2) : 1023;
            int v = below(Math.max(1, violins));
            boolean free = (set >> v & 1) == 1 && (used >> v & 1) == 0 && below(4) > 0;
            row[p] = free || below(60) == 0 ? v : -1;
            used |= row[p] < 0 ? 0 : 1 << row[p];
        }
        return row;
    }

    private void quarrels() {
        int k = sheetNumber();
        int lane = fill(k, row(true));
        int i = fromWhere;
        same(11, "quarrels", x.quarrels(k, lane, i), slow.quarrels(k, lane, i), k, lane, i);
        int n = some(-1, 8);
        same(12, "quarrel", x.quarrel(k, lane, i, n), slow.quarrel(k, lane, i, n), k, lane, i, n);
        int count = slow.quarrels(k, lane, i);
        slow.quarrel(k, lane, i, n);
        if (count > 0) {
            n = below(count + 1);
            same(12, "quarrel", x.quarrel(k, lane, i, n), slow.quarrel(k, lane, i, n), k, lane, i, n);
        }
    }

    // ---- rows on sheets

    private int fromWhere = 0;
    private int howMany = 0;

    /** Gives a sheet these cells and some around them; now and then tells another lane or place than there is. */
    private int fill(int k, int[] cells) {
        int lane = lane();
        int ahead = below(4) == 0 ? below(3) : 0;
        int length = ahead + cells.length + (below(3) == 0 ? below(3) : 0);
        if (below(25) == 0) {
            same(42, "lose", x.lose(k), slow.lose(k), k);
        } else {
            same(41, "sheet", x.sheet(k, lane, length), slow.sheet(k, lane, length), k, lane, length);
            for (int j = 0; j < cells.length; j++) {
                put(k, ahead + j, cells[j]);
            }
        }
        fromWhere = below(30) == 0 ? some(-2, 10) : ahead;
        howMany = below(30) == 0 ? some(-3, 25) : cells.length;
        return below(30) == 0 ? lane() : lane;
    }

    private void put(int k, int i, int v) {
        same(43, "put", x.put(k, i, v), slow.put(k, i, v), k, i, v);
    }

    // ---- 2

    private void askLoans(int call) {
        int l = someOf(2);
        int v = someViolin();
        int day = day();
        switch (call) {
            case 0:
            case 1:
            case 2: lend(); break;
            case 3: back(l); break;
            case 4: same(15, "warn", x.warn(l, day), slow.warn(l, day), l, day); break;
            case 5: loan(l); break;
            case 6: on(day); break;
            case 7:
            case 8: look(v, day); break;
            case 9: born(v); break;
            case 10: blame(v); break;
            case 11: same(21, "wrongs", x.wrongs(v), slow.wrongs(v), v); break;
            default: days(day); break;
        }
    }

    private void lend() {
        int p = somePlayer();
        int v = someViolin();
        int from = day();
        int to = below(20) == 0 ? day() : from + below(lastDay / 3 + 1);
        same(13, "lend", x.lend(p, v, from, to), slow.lend(p, v, from, to), p, v, from, to);
    }

    private void back(int l) {
        int day = below(3) == 0 ? day() : slow.loan(l, 3) - below(3);
        same(14, "back", x.back(l, day), slow.back(l, day), l, day);
    }

    private void loan(int l) {
        int what = some(0, 5);
        same(16, "loan", x.loan(l, what), slow.loan(l, what), l, what);
    }

    private void on(int day) {
        int who = some(0, 1);
        int n = who == 0 ? someViolin() : somePlayer();
        same(17, "on", x.on(who, n, day), slow.on(who, n, day), who, n, day);
    }

    private void look(int v, int day) {
        int cracks = below(4) == 0 ? some(0, 65535) : below(4) | below(4) << 14;
        same(18, "look", x.look(v, day, cracks), slow.look(v, day, cracks), v, day, cracks);
    }

    private int crack() {
        return below(3) == 0 ? some(0, 15) : below(2) + 14 * below(2);
    }

    private void born(int v) {
        int c = crack();
        int end = some(0, 1);
        same(19, "born", x.born(v, c, end), slow.born(v, c, end), v, c, end);
    }

    private void blame(int v) {
        int c = crack();
        same(20, "blame", x.blame(v, c), slow.blame(v, c), v, c);
    }

    private void days(int day) {
        int k = sheetNumber();
        int lane = fill(k, row(false));
        int i = fromWhere;
        int hands = below(3) == 0 ? some(1, 9) : 1 + below(4);
        int want = slow.days(day, hands, k, lane, i);
        if (want != SlowHouse.TOO_MANY) {
            same(22, "days", x.days(day, hands, k, lane, i), want, day, hands, k, lane, i);
        } else {
            x.days(day, hands, k, lane, i);
            calls++;
        }
    }

    // ---- 3

    private int someName() {
        return below(3) == 0 ? some(0, 99) : below(3);
    }

    private void askHolders(int call) {
        int v = someViolin();
        int name = someName();
        int from = year();
        switch (call) {
            case 0:
            case 1:
            case 2: holder(v, name, from); break;
            case 3: gaps(v); break;
            case 4: gap(v); break;
            default: same(26, "claim", x.claim(v, name, from), slow.claim(v, name, from), v, name, from); break;
        }
    }

    private void holder(int v, int name, int from) {
        int to = below(20) == 0 ? year() : from + below(8);
        same(23, "holder", x.holder(v, name, from, to), slow.holder(v, name, from, to), v, name, from, to);
    }

    private void gaps(int v) {
        int what = some(0, 1);
        same(24, "gaps", x.gaps(v, what), slow.gaps(v, what), v, what);
    }

    private void gap(int v) {
        int i = some(0, 2);
        int end = some(0, 1);
        same(25, "gap", x.gap(v, i, end), slow.gap(v, i, end), v, i, end);
    }

    // ---- 4

    private void askTrips(int call) {
        int t = someOf(5);
        int day = below(3) == 0 ? day() : below(3);
        int plane = below(3) == 0 ? some(-1, 1) : -1;
        switch (call) {
            case 0:
            case 1:
            case 2: trip(day, plane); break;
            case 3: same(28, "fix", x.fix(t, plane), slow.fix(t, plane), t, plane); break;
            case 4: same(29, "spread", x.spread(day), slow.spread(day), day); break;
            case 5:
            case 6: same(30, "plane", x.plane(t), slow.plane(t), t); break;
            case 7: limit(); break;
            case 8: same(32, "over", x.over(), slow.over()); break;
            default: damp(); break;
        }
    }

    private void trip(int day, int plane) {
        int v = someViolin();
        same(27, "trip", x.trip(v, day, plane), slow.trip(v, day, plane), v, day, plane);
    }

    private void limit() {
        int v = below(3) == 0 ? some(1, 100000000) : 1 + below(60);
        same(31, "limit", x.limit(v), slow.limit(v), v);
    }

    private void damp() {
        int[] hours = new int[below(12)];
        for (int j = 0; j < hours.length; j++) {
            hours[j] = below(3) == 0 ? -1 : below(40) == 0 ? some(-1, 100) : 38 + below(8);
        }
        int k = sheetNumber();
        int lane = fill(k, hours);
        int i = fromWhere;
        int n = howMany;
        int a = below(4) == 0 ? some(0, 100) : 38 + below(5);
        int b = below(4) == 0 ? some(a, 100) : a + below(4);
        int what = some(0, 1);
        same(33, "damp", x.damp(k, lane, i, n, a, b, what), slow.damp(k, lane, i, n, a, b, what), k, lane, i, n, a, b, what);
    }

    // ---- 5

    private void askRings(int call) {
        int v = someViolin();
        switch (call) {
            case 0:
            case 1: rings(v); break;
            case 2: oak(); break;
            case 3:
            case 4: laid(v); break;
            case 5:
            case 6:
            case 7: best(v); break;
            default: oneTree(v); break;
        }
    }

    /** The years of one wood: rows are mostly parts of it, so that they can agree. */
    private int[] wood(int most) {
        int from = below(6);
        int[] widths = new int[Math.max(0, most - below(most + 1) / 2)];
        for (int j = 0; j < widths.length; j++) {
            int grown = 1 + (int) ((seed + 7) * (from + j) * (from + j) % 11);
            widths[j] = below(30) == 0 ? some(1, 255) : grown;
        }
        return widths;
    }

    private void rings(int v) {
        int k = sheetNumber();
        int lane = fill(k, wood(below(8) == 0 ? 21 : below(12)));
        int i = fromWhere;
        int n = howMany;
        same(34, "rings", x.rings(v, k, lane, i, n), slow.rings(v, k, lane, i, n), v, k, lane, i, n);
    }

    private void oak() {
        int k = sheetNumber();
        int lane = fill(k, wood(below(8) == 0 ? 58 : below(25)));
        int i = fromWhere;
        int n = howMany;
        int start = some(0, 2100);
        same(35, "oak", x.oak(k, lane, i, n, start), slow.oak(k, lane, i, n, start), k, lane, i, n, start);
    }

    private void laid(int v) {
        int k = some(-12, 24);
        int what = some(0, 1);
        same(36, "laid", x.laid(v, k, what), slow.laid(v, k, what), v, k, what);
    }

    private void best(int v) {
        int what = some(0, 2);
        same(37, "best", x.best(v, what), slow.best(v, what), v, what);
    }

    private void oneTree(int v) {
        int w = someViolin();
        same(38, "oneTree", x.oneTree(v, w), slow.oneTree(v, w), v, w);
    }

    // ---- 6

    private void askContract(int call) {
        if (call < 3) {
            contract();
            return;
        }
        int letter = some(0, 3);
        same(40, "clause", x.clause(letter), slow.clause(letter), letter);
        loan(someOf(2));
        same(50, "many", x.many(7), slow.many(7));
    }

    private void contract() {
        String[] texts = TEXTS.split(" ");
        String text = below(25) == 0 ? "" : texts[below(texts.length)];
        int[] signs = text.chars().toArray();
        if (signs.length > 0 && below(5) == 0) {
            signs[below(signs.length)] = below(4) == 0 ? some(-1, 126) : "ABHY;0123456789".charAt(below(15));
        }
        int k = sheetNumber();
        int lane = fill(k, signs);
        int i = fromWhere;
        int n = howMany;
        same(39, "contract", x.contract(k, lane, i, n), slow.contract(k, lane, i, n), k, lane, i, n);
    }

    // ---- sheets, parts

    private void askSheets(int call) {
        int k = sheetNumber();
        int lane = lane();
        int i = some(0, 5);
        int v = someViolin();
        int number = below(2) == 0 ? some(-130, 260) : random.nextInt();
        switch (call) {
            case 0: sheet(k, lane); break;
            case 1: same(42, "lose", x.lose(k), slow.lose(k), k); break;
            case 2:
            case 3:
            case 4: put(k, i, number); break;
            case 5:
            case 6: same(44, "at", x.at(k, i, lane), slow.at(k, i, lane), k, i, lane); break;
            case 7: same(45, "tell", x.tell(v), slow.tell(v), v); break;
            case 8: same(46, "praise", x.praise(v), slow.praise(v), v); break;
            case 9: same(47, "as", x.as(v, lane), slow.as(v, lane), v, lane); break;
            case 10: same(48, "trace", x.trace(), slow.trace()); break;
            case 11: same(49, "fault", x.fault(), slow.fault()); break;
            default: many(); break;
        }
    }

    private void sheet(int k, int lane) {
        int n = below(4) == 0 ? some(0, 60) : some(0, 6);
        same(41, "sheet", x.sheet(k, lane, n), slow.sheet(k, lane, n), k, lane, n);
    }

    private void many() {
        int what = some(0, 7);
        same(50, "many", x.many(what), slow.many(what), what);
    }

    /** What is left when the run ends. */
    private void readAll() {
        same(48, "trace", x.trace(), slow.trace());
        same(49, "fault", x.fault(), slow.fault());
        same(9, "sum", x.sum(), slow.sum());
        same(32, "over", x.over(), slow.over());
        for (int what = 0; what < 8; what++) {
            same(50, "many", x.many(what), slow.many(what), what);
        }
        for (int n = 0; n < 4; n++) {
            int k = n;
            same(40, "clause", x.clause(k), slow.clause(k), k);
            for (int lane = 0; lane < 3; lane++) {
                int of = lane;
                same(44, "at", x.at(k, 0, of), slow.at(k, 0, of), k, 0, of);
            }
        }
        for (int v = 0; v < Math.min(5, slow.many(0)); v++) {
            same(21, "wrongs", x.wrongs(v), slow.wrongs(v), v);
            same(37, "best", x.best(v, 2), slow.best(v, 2), v);
            same(24, "gaps", x.gaps(v, 0), slow.gaps(v, 0), v);
        }
    }
}
