import java.util.ArrayList;
import java.util.Comparator;
import java.util.List;
import java.util.Map;
import java.util.TreeMap;

/**
 * The document once more, call by call, written from its sentences alone and as slowly as they allow: lists, strings
 * and trying out, none of the ways of the class. Whatever both answer alike was read alike twice.
 */
final class SlowHouse {
    private static final int UNKNOWN = Due.UNKNOWN, OUTSIDE = Due.OUTSIDE, STATE = Due.STATE, FULL = Due.FULL;
    private static final int NONE = Due.NONE;
    private static final long LOST = Due.LOST;
    /** What days() answers where trying out all ways would take too long. */
    static final int TOO_MANY = 1000;
    private static final int MOST_TRIED_MOVES = 12;

    private final List<Violin> violins = new ArrayList<>();
    private final List<Player> players = new ArrayList<>();
    private final List<Loan> loans = new ArrayList<>();
    private final List<Look> looks = new ArrayList<>();
    private final List<Holder> holders = new ArrayList<>();
    private final List<Trip> trips = new ArrayList<>();
    private final int[][] sheets = new int[4][];
    private final int[] lanes = new int[4];
    private final Map<Character, Integer> clauses = new TreeMap<>();
    private int[] oak = {};
    private int start = 0;
    private int mostRisk = 1000000;
    private int trace = 0;
    private int fault = 0;

    private class Violin {
        final int number = violins.size();
        final int kind, maker, worth;
        int[] rings = {};

        Violin(int kind, int maker, int worth) {
            this.kind = kind;
            this.maker = maker;
            this.worth = worth;
        }

        int tell() {
            return tellPlain();
        }

        final int tellPlain() {
            trace = 31 * trace + 1;
            return maker;
        }

        int praise() {
            trace = 31 * trace + 4;
            return number;
        }
    }

    private class OldViolin extends Violin {
        OldViolin(int kind, int maker, int worth) {
            super(kind, maker, worth);
        }

        @Override
        int tell() {
            trace = 31 * trace + 2;
            return super.tell() + rings.length;
        }
    }

    private final class FamedViolin extends OldViolin {
        FamedViolin(int maker, int worth) {
            super(2, maker, worth);
        }

        @Override
        int tell() {
            trace = 31 * trace + 3;
            int told = super.tell();
            return told + tellPlain();
        }

        @Override
        int praise() {
            trace = 31 * trace + 5;
            return 70;
        }
    }

    private static final class Player {
        final int rank;
        final int[] trials = new int[10];
        final boolean[] told = new boolean[10];

        Player(int rank) {
            this.rank = rank;
        }
    }

    private static final class Loan {
        final int player, violin, from;
        int to;
        Integer warning = null;

        Loan(int player, int violin, int from, int to) {
            this.player = player;
            this.violin = violin;
            this.from = from;
            this.to = to;
        }

        boolean has(int day) {
            return from <= day && day <= to;
        }
    }

    private record Look(int violin, int day, int cracks) {
        boolean has(int crack) {
            return (cracks >> crack & 1) == 1;
        }
    }

    private record Holder(int violin, int name, int from, int to) {
        boolean has(int year) {
            return from <= year && year <= to;
        }
    }

    private static final class Trip {
        final int violin, day;
        int plane;

        Trip(int violin, int day, int plane) {
            this.violin = violin;
            this.day = day;
            this.plane = plane;
        }
    }

    private static boolean out(int x, int least, int most) {
        return x < least || x > most;
    }

    private static boolean none(List<?> list, int number) {
        return out(number, 0, list.size() - 1);
    }

    // ---- 1 violins, players

    int violin(int kind, int maker, int worth) {
        if (out(kind, 0, 2) || out(maker, 0, 9) || out(worth, 1, 1000000)) {
            return OUTSIDE;
        }
        if (violins.size() == 10) {
            return FULL;
        }
        violins.add(kind == 0 ? new Violin(0, maker, worth)
            : kind == 1 ? new OldViolin(1, maker, worth) : new FamedViolin(maker, worth));
        return violins.size() - 1;
    }

    int player(int rank) {
        if (out(rank, 0, 99)) {
            return OUTSIDE;
        }
        if (players.size() == 10) {
            return FULL;
        }
        players.add(new Player(rank));
        return players.size() - 1;
    }

    int trial(int p, int v, int t) {
        if (none(players, p) || none(violins, v)) {
            return UNKNOWN;
        }
        if (out(t, 0, 99)) {
            return OUTSIDE;
        }
        int was = players.get(p).trials[v];
        players.get(p).trials[v] = t;
        return was;
    }

    int had(int p, int maker, boolean is) {
        if (none(players, p)) {
            return UNKNOWN;
        }
        if (out(maker, 0, 9)) {
            return OUTSIDE;
        }
        if (players.get(p).told[maker] == is) {
            return 0;
        }
        players.get(p).told[maker] = is;
        return 1;
    }

    private boolean hadMaker(int p, int maker) {
        boolean lent = false;
        for (Loan loan : loans) {
            lent |= loan.player == p && violins.get(loan.violin).maker == maker;
        }
        return lent || players.get(p).told[maker];
    }

    private boolean mayHave(int p, int v) {
        return players.get(p).trials[v] > 0 && !hadMaker(p, violins.get(v).maker);
    }

    int may(int p, int v) {
        return none(players, p) || none(violins, v) ? UNKNOWN : mayHave(p, v) ? 1 : 0;
    }

    int ofViolin(int v, int what) {
        if (none(violins, v)) {
            return UNKNOWN;
        }
        switch (what) {
            case 0: return violins.get(v).kind;
            case 1: return violins.get(v).maker;
            case 2: return violins.get(v).worth;
            case 3: return violins.get(v).rings.length;
            case 4: return (int) loans.stream().filter(l -> l.violin == v).count();
            case 5: return (int) looks.stream().filter(l -> l.violin == v).count();
            case 6: return (int) holders.stream().filter(h -> h.violin == v).count();
            case 7: return (int) trips.stream().filter(t -> t.violin == v).count();
            default: return OUTSIDE;
        }
    }

    int ofPlayer(int p, int what) {
        if (none(players, p)) {
            return UNKNOWN;
        }
        int set = 0;
        switch (what) {
            case 0:
                return players.get(p).rank;
            case 1:
                for (int maker = 0; maker < 10; maker++) {
                    set += hadMaker(p, maker) ? 1 << maker : 0;
                }
                return set;
            case 2:
                for (int v = 0; v < violins.size(); v++) {
                    set += mayHave(p, v) ? 1 << v : 0;
                }
                return set;
            case 3:
                return (int) loans.stream().filter(l -> l.player == p).count();
            default:
                return OUTSIDE;
        }
    }

    /** The greatest sum of players from p on, if these violins are taken, by players and sets. */
    private int[][] sums() {
        int[][] most = new int[players.size() + 1][1 << violins.size()];
        for (int p = players.size() - 1; p >= 0; p--) {
            for (int used = 0; used < most[p].length; used++) {
                most[p][used] = most[p + 1][used];
                for (int v = 0; v < violins.size(); v++) {
                    if ((used >> v & 1) == 0 && mayHave(p, v)) {
                        int sum = players.get(p).trials[v] + most[p + 1][used | 1 << v];
                        most[p][used] = Math.max(most[p][used], sum);
                    }
                }
            }
        }
        return most;
    }

    int sum() {
        return sums()[0][0];
    }

    /** Each in turn the least violin with which the greatest sum can still be reached, none behind all. */
    private int[] bestRow() {
        int[][] most = sums();
        int[] row = new int[players.size()];
        int used = 0;
        for (int p = 0; p < row.length; p++) {
            row[p] = NONE;
            for (int v = violins.size() - 1; v >= 0; v--) {
                if ((used >> v & 1) == 0 && mayHave(p, v)
                        && players.get(p).trials[v] + most[p + 1][used | 1 << v] == most[p][used]) {
                    row[p] = v;
                }
            }
            used |= row[p] == NONE ? 0 : 1 << row[p];
        }
        return row;
    }

    private boolean outranks(int p, int other) {
        int by = Integer.compare(players.get(p).rank, players.get(other).rank);
        return by > 0 || by == 0 && p < other;
    }

    private int[] calmRow() {
        int[] row = new int[players.size()];
        java.util.Arrays.fill(row, NONE);
        List<List<Integer>> wishes = new ArrayList<>();
        for (int p = 0; p < row.length; p++) {
            int[] trials = players.get(p).trials;
            List<Integer> wish = new ArrayList<>();
            for (int v = 0; v < violins.size(); v++) {
                if (mayHave(p, v)) {
                    wish.add(v);
                }
            }
            wish.sort(Comparator.comparingInt((Integer v) -> -trials[v]).thenComparingInt(v -> v));
            wishes.add(wish);
        }
        for (int p = nextToAsk(row, wishes); p >= 0; p = nextToAsk(row, wishes)) {
            int v = wishes.get(p).remove(0);
            int keeper = -1;
            for (int other = 0; other < row.length; other++) {
                keeper = row[other] == v ? other : keeper;
            }
            if (keeper < 0 || outranks(p, keeper)) {
                row[p] = v;
                if (keeper >= 0) {
                    row[keeper] = NONE;
                }
            }
        }
        return row;
    }

    private static int nextToAsk(int[] row, List<List<Integer>> wishes) {
        for (int p = 0; p < row.length; p++) {
            if (row[p] == NONE && !wishes.get(p).isEmpty()) {
                return p;
            }
        }
        return -1;
    }

    int lent(int p, int which) {
        if (none(players, p)) {
            return UNKNOWN;
        }
        if (out(which, 0, 1)) {
            return OUTSIDE;
        }
        return (which == 0 ? bestRow() : calmRow())[p];
    }

    /** The fault of n cells of a sheet from i on, or 0; it is kept for fault(). */
    private int faultOf(int k, int lane, int i, int n) {
        if (sheets[k] != null && lanes[k] != lane) {
            fault = 2;
        } else if (sheets[k] == null) {
            fault = 1;
        } else if (n < 0) {
            fault = 4;
        } else if (out(i, 0, sheets[k].length) || (long) i + n > sheets[k].length) {
            fault = 3;
        }
        return fault;
    }

    private List<Integer> cells(int k, int i, int n) {
        List<Integer> row = new ArrayList<>();
        for (int j = i; j < i + n; j++) {
            row.add(sheets[k][j]);
        }
        return row;
    }

    /** No violin for two, none that is not there; and if it is to be a lending, none that a player may not have. */
    private boolean isRow(List<Integer> row, boolean asLending) {
        for (int p = 0; p < row.size(); p++) {
            int v = row.get(p);
            if (out(v, -1, violins.size() - 1)) {
                return false;
            }
            if (v >= 0 && (row.indexOf(v) < p || asLending && !mayHave(p, v))) {
                return false;
            }
        }
        return true;
    }

    private List<Integer> quarrelsWith(List<Integer> row) {
        List<Integer> quarrels = new ArrayList<>();
        for (int p = 0; p < row.size(); p++) {
            for (int v = 0; v < violins.size(); v++) {
                int[] trials = players.get(p).trials;
                boolean wants = mayHave(p, v) && (row.get(p) == -1 || trials[row.get(p)] < trials[v]);
                int other = row.indexOf(v);
                if (wants && (other < 0 || outranks(p, other))) {
                    quarrels.add(10 * p + v);
                }
            }
        }
        return quarrels;
    }

    int quarrels(int sheet, int lane, int i) {
        fault = 0;
        if (out(sheet, 0, 3)) {
            return UNKNOWN;
        }
        if (out(lane, 0, 2)) {
            return OUTSIDE;
        }
        if (faultOf(sheet, lane, i, players.size()) != 0) {
            return -10 - fault;
        }
        List<Integer> row = cells(sheet, i, players.size());
        return isRow(row, true) ? quarrelsWith(row).size() : OUTSIDE;
    }

    int quarrel(int sheet, int lane, int i, int n) {
        if (n < 0) {
            fault = 0;
            return UNKNOWN;
        }
        int count = quarrels(sheet, lane, i);
        if (count < 0) {
            return count;
        }
        return n >= count ? UNKNOWN : quarrelsWith(cells(sheet, i, players.size())).get(n);
    }

    // ---- 2 loans, looks, moves

    int lend(int p, int v, int from, int to) {
        if (none(players, p) || none(violins, v)) {
            return UNKNOWN;
        }
        if (out(from, 0, 100000) || out(to, 0, 100000) || from > to) {
            return OUTSIDE;
        }
        boolean shared = false;
        for (Loan loan : loans) {
            boolean same = loan.player == p || loan.violin == v;
            shared |= same && Math.max(from, loan.from) <= Math.min(to, loan.to);
        }
        if (shared || !mayHave(p, v)) {
            return STATE;
        }
        if (loans.size() == 40) {
            return FULL;
        }
        loans.add(new Loan(p, v, from, to));
        return loans.size() - 1;
    }

    int back(int l, int day) {
        if (none(loans, l)) {
            return UNKNOWN;
        }
        int was = loans.get(l).to;
        if (day < loans.get(l).from || day > was) {
            return OUTSIDE;
        }
        loans.get(l).to = day;
        return was;
    }

    int warn(int l, int day) {
        if (none(loans, l)) {
            return UNKNOWN;
        }
        if (out(day, 0, 100000)) {
            return OUTSIDE;
        }
        loans.get(l).warning = day;
        return 1;
    }

    int loan(int l, int what) {
        if (none(loans, l)) {
            return UNKNOWN;
        }
        Loan loan = loans.get(l);
        switch (what) {
            case 0: return loan.player;
            case 1: return loan.violin;
            case 2: return loan.from;
            case 3: return loan.to;
            case 4: return loan.warning == null ? NONE : loan.warning;
            case 5: return brokenBy(loan);
            default: return OUTSIDE;
        }
    }

    private int brokenBy(Loan loan) {
        int set = 0;
        if (clauses.containsKey('A')) {
            long gone = trips.stream().filter(t -> t.violin == loan.violin && loan.has(t.day)).count();
            set += gone > clauses.get('A') ? 1 : 0;
        }
        if (clauses.containsKey('B')) {
            set += loan.warning != null && loan.to - loan.warning >= clauses.get('B') ? 0 : 2;
        }
        if (clauses.containsKey('H')) {
            set += players.get(loan.player).rank >= clauses.get('H') ? 0 : 4;
        }
        if (clauses.containsKey('Y')) {
            int days = 0;
            for (int day = loan.from; loan.has(day); day++) {
                days++;
            }
            set += days <= clauses.get('Y') ? 0 : 8;
        }
        return set;
    }

    int on(int who, int n, int day) {
        if (out(who, 0, 1)) {
            return OUTSIDE;
        }
        if (none(who == 0 ? violins : players, n)) {
            return UNKNOWN;
        }
        if (out(day, 0, 100000)) {
            return OUTSIDE;
        }
        for (Loan loan : loans) {
            if (loan.has(day) && (who == 0 ? loan.violin : loan.player) == n) {
                return loans.indexOf(loan);
            }
        }
        return NONE;
    }

    int look(int v, int day, int cracks) {
        if (none(violins, v)) {
            return UNKNOWN;
        }
        if (out(day, 0, 100000) || out(cracks, 0, 65535)) {
            return OUTSIDE;
        }
        if (looksAt(v).stream().anyMatch(l -> l.day() == day)) {
            return STATE;
        }
        if (looks.size() == 40) {
            return FULL;
        }
        looks.add(new Look(v, day, cracks));
        return looks.size() - 1;
    }

    private List<Look> looksAt(int v) {
        return looks.stream().filter(l -> l.violin() == v).sorted(Comparator.comparingInt(Look::day)).toList();
    }

    /** The first and the last day, or null if no look has the crack. */
    private int[] born(int v, int c) {
        int first = 0;
        for (Look look : looksAt(v)) {
            if (look.has(c)) {
                return new int[] {first, look.day()};
            }
            first = look.day() + 1;
        }
        return null;
    }

    int born(int v, int c, int end) {
        if (none(violins, v) || out(c, 0, 15)) {
            return UNKNOWN;
        }
        if (out(end, 0, 1)) {
            return OUTSIDE;
        }
        int[] days = born(v, c);
        return days == null ? NONE : days[end];
    }

    int blame(int v, int c) {
        if (none(violins, v) || out(c, 0, 15)) {
            return UNKNOWN;
        }
        int[] days = born(v, c);
        for (Loan loan : loans) {
            if (days != null && loan.violin == v && loan.has(days[0]) && loan.has(days[1])) {
                return loans.indexOf(loan);
            }
        }
        return NONE;
    }

    int wrongs(int v) {
        if (none(violins, v)) {
            return UNKNOWN;
        }
        int wrongs = 0;
        for (Look look : looksAt(v)) {
            boolean wrong = false;
            for (Look ahead : looksAt(v)) {
                for (int c = 0; c < 16; c++) {
                    wrong |= ahead.day() < look.day() && ahead.has(c) && !look.has(c);
                }
            }
            wrongs += wrong ? 1 : 0;
        }
        return wrongs;
    }

    /** A violin handed in or got by a player. */
    private record Move(int player, int violin, boolean gets) {
        boolean mustWaitFor(Move other) {
            return gets && !other.gets && (player == other.player || violin == other.violin);
        }
    }

    int days(int day, int hands, int sheet, int lane, int i) {
        fault = 0;
        if (out(sheet, 0, 3)) {
            return UNKNOWN;
        }
        if (out(lane, 0, 2) || out(day, 0, 100000) || out(hands, 1, 9)) {
            return OUTSIDE;
        }
        if (faultOf(sheet, lane, i, players.size()) != 0) {
            return -10 - fault;
        }
        List<Integer> row = cells(sheet, i, players.size());
        if (!isRow(row, false)) {
            return OUTSIDE;
        }
        List<Move> moves = new ArrayList<>();
        for (int p = 0; p < row.size(); p++) {
            int loan = on(1, p, day);
            int has = loan == NONE ? -1 : loans.get(loan).violin;
            if (has != row.get(p) && has >= 0) {
                moves.add(new Move(p, has, false));
            }
            if (has != row.get(p) && row.get(p) >= 0) {
                moves.add(new Move(p, row.get(p), true));
            }
        }
        return moves.size() > MOST_TRIED_MOVES ? TOO_MANY : fewestDays(moves, hands);
    }

    /** By days, what may be done by then: each way of doing as many of the open moves as there are hands. */
    private static int fewestDays(List<Move> moves, int hands) {
        int all = (1 << moves.size()) - 1;
        boolean[] reached = new boolean[all + 1];
        reached[0] = true;
        int days = 0;
        while (!reached[all]) {
            boolean[] next = new boolean[all + 1];
            for (int done = 0; done <= all; done++) {
                if (reached[done]) {
                    int open = open(moves, done);
                    for (int set = open; set > 0; set = set - 1 & open) {
                        if (Integer.bitCount(set) == Math.min(hands, Integer.bitCount(open))) {
                            next[done | set] = true;
                        }
                    }
                }
            }
            reached = next;
            days++;
        }
        return days;
    }

    private static int open(List<Move> moves, int done) {
        int open = 0;
        for (int m = 0; m < moves.size(); m++) {
            boolean waits = (done >> m & 1) == 1;
            for (int other = 0; other < moves.size(); other++) {
                waits |= (done >> other & 1) == 0 && moves.get(m).mustWaitFor(moves.get(other));
            }
            open |= waits ? 0 : 1 << m;
        }
        return open;
    }

    // ---- 3 holders

    int holder(int v, int name, int from, int to) {
        if (none(violins, v)) {
            return UNKNOWN;
        }
        if (out(name, 0, 99) || out(from, 1500, 2100) || out(to, 1500, 2100) || from > to) {
            return OUTSIDE;
        }
        if (holders.size() == 40) {
            return FULL;
        }
        holders.add(new Holder(v, name, from, to));
        return holders.size() - 1;
    }

    private List<Holder> holdersOf(int v) {
        return holders.stream().filter(h -> h.violin() == v).toList();
    }

    private boolean anyHas(int v, int year) {
        return holdersOf(v).stream().anyMatch(h -> h.has(year));
    }

    private List<int[]> gapsOf(int v) {
        List<int[]> gaps = new ArrayList<>();
        int first = holdersOf(v).stream().mapToInt(Holder::from).min().orElse(0);
        int last = holdersOf(v).stream().mapToInt(Holder::to).max().orElse(-1);
        for (int year = first; year <= last; year++) {
            if (!anyHas(v, year) && anyHas(v, year - 1)) {
                gaps.add(new int[] {year, year});
            } else if (!anyHas(v, year)) {
                gaps.get(gaps.size() - 1)[1] = year;
            }
        }
        return gaps;
    }

    int gaps(int v, int what) {
        if (none(violins, v)) {
            return UNKNOWN;
        }
        if (out(what, 0, 1)) {
            return OUTSIDE;
        }
        if (what == 0) {
            return gapsOf(v).size();
        }
        int quarrels = 0;
        List<Holder> of = holdersOf(v);
        for (int a = 0; a < of.size(); a++) {
            for (int b = a + 1; b < of.size(); b++) {
                boolean shared = Math.max(of.get(a).from(), of.get(b).from()) <= Math.min(of.get(a).to(), of.get(b).to());
                quarrels += shared && of.get(a).name() != of.get(b).name() ? 1 : 0;
            }
        }
        return quarrels;
    }

    int gap(int v, int i, int end) {
        if (none(violins, v) || none(gapsOf(v), i)) {
            return UNKNOWN;
        }
        return out(end, 0, 1) ? OUTSIDE : gapsOf(v).get(i)[end];
    }

    int claim(int v, int name, int year) {
        if (none(violins, v)) {
            return UNKNOWN;
        }
        if (out(name, 0, 99) || out(year, 1500, 2100)) {
            return OUTSIDE;
        }
        List<Holder> having = holdersOf(v).stream().filter(h -> h.has(year)).toList();
        List<Holder> named = having.stream().filter(h -> h.name() == name).toList();
        // sorting keeps those of like years in the order of their numbers
        List<Holder> behind = holdersOf(v).stream().filter(h -> h.from() > year)
            .sorted(Comparator.comparingInt(Holder::from)).toList();
        if (!named.isEmpty() && !anyHas(v, named.get(0).to() + 1) && !behind.isEmpty() && behind.get(0).name() != name) {
            return 2;
        }
        boolean inGap = gapsOf(v).stream().anyMatch(g -> g[0] <= year && year <= g[1]);
        boolean both = !named.isEmpty() && named.size() < having.size();
        return inGap || both ? 1 : 0;
    }

    // ---- 4 trips, damp

    int trip(int v, int day, int plane) {
        if (none(violins, v)) {
            return UNKNOWN;
        }
        if (out(day, 0, 100000) || out(plane, -1, 1)) {
            return OUTSIDE;
        }
        if (trips.stream().anyMatch(t -> t.violin == v && t.day == day)) {
            return STATE;
        }
        if (trips.size() == 40) {
            return FULL;
        }
        trips.add(new Trip(v, day, plane));
        return trips.size() - 1;
    }

    int fix(int t, int plane) {
        if (none(trips, t)) {
            return UNKNOWN;
        }
        if (out(plane, -1, 1)) {
            return OUTSIDE;
        }
        int was = trips.get(t).plane;
        trips.get(t).plane = plane;
        return was < 0 ? NONE : was;
    }

    /** The least risk of trips from the n-th on, and the first row of planes that has it. */
    private int leastRisk(List<Trip> of, int n, int inZero, int inOne, List<Integer> row) {
        if (n == of.size()) {
            return Math.max(inZero, inOne);
        }
        int worth = violins.get(of.get(n).violin).worth;
        int least = Integer.MAX_VALUE;
        List<Integer> first = new ArrayList<>();
        for (int plane = 0; plane <= 1; plane++) {
            if (of.get(n).plane < 0 || of.get(n).plane == plane) {
                List<Integer> rest = new ArrayList<>(List.of(plane));
                int risk = leastRisk(of, n + 1, inZero + (1 - plane) * worth, inOne + plane * worth, rest);
                if (risk < least) {
                    least = risk;
                    first = rest;
                }
            }
        }
        row.addAll(first);
        return least;
    }

    private List<Trip> tripsOn(int day) {
        return trips.stream().filter(t -> t.day == day).toList();
    }

    int spread(int day) {
        return out(day, 0, 100000) ? OUTSIDE : leastRisk(tripsOn(day), 0, 0, 0, new ArrayList<>());
    }

    int plane(int t) {
        if (none(trips, t)) {
            return UNKNOWN;
        }
        List<Trip> of = tripsOn(trips.get(t).day);
        List<Integer> row = new ArrayList<>();
        leastRisk(of, 0, 0, 0, row);
        return row.get(of.indexOf(trips.get(t)));
    }

    int limit(int v) {
        if (out(v, 1, 100000000)) {
            return OUTSIDE;
        }
        int was = mostRisk;
        mostRisk = v;
        return was;
    }

    int over() {
        return (int) trips.stream().map(t -> t.day).distinct().filter(day -> spread(day) > mostRisk).count();
    }

    int damp(int sheet, int lane, int i, int n, int a, int b, int what) {
        fault = 0;
        if (out(sheet, 0, 3)) {
            return UNKNOWN;
        }
        if (out(lane, 0, 2) || out(a, 0, 100) || out(b, 0, 100) || a > b || out(what, 0, 1)) {
            return OUTSIDE;
        }
        if (faultOf(sheet, lane, i, n) != 0) {
            return -10 - fault;
        }
        StringBuilder signs = new StringBuilder();
        for (int hour : cells(sheet, i, n)) {
            if (out(hour, -1, 100)) {
                return OUTSIDE;
            }
            signs.append(hour == -1 ? '?' : out(hour, a, b) ? '!' : ' ');
        }
        int longest = 0;
        for (String run : signs.toString().split(" ")) {
            longest = what == 0 || run.contains("!") ? Math.max(longest, run.length()) : longest;
        }
        return longest;
    }

    // ---- 5 rings

    int rings(int v, int sheet, int lane, int i, int n) {
        fault = 0;
        if (none(violins, v) || out(sheet, 0, 3)) {
            return UNKNOWN;
        }
        if (out(lane, 0, 2)) {
            return OUTSIDE;
        }
        if (faultOf(sheet, lane, i, n) != 0) {
            return -10 - fault;
        }
        List<Integer> row = cells(sheet, i, n);
        if (n > 20 || row.stream().anyMatch(width -> out(width, 1, 255))) {
            return OUTSIDE;
        }
        violins.get(v).rings = row.stream().mapToInt(width -> width).toArray();
        return n;
    }

    int oak(int sheet, int lane, int i, int n, int from) {
        fault = 0;
        if (out(sheet, 0, 3)) {
            return UNKNOWN;
        }
        if (out(lane, 0, 2) || out(from, 0, 2100)) {
            return OUTSIDE;
        }
        if (faultOf(sheet, lane, i, n) != 0) {
            return -10 - fault;
        }
        List<Integer> row = cells(sheet, i, n);
        if (row.stream().anyMatch(width -> out(width, 1, 255))) {
            return OUTSIDE;
        }
        oak = row.stream().mapToInt(width -> width).toArray();
        start = from;
        return n;
    }

    /** For each step that both have, whether it agrees: the first ring of a row lies at the k-th of the ground. */
    private static List<Boolean> steps(int[] row, int[] ground, int k) {
        List<Boolean> steps = new ArrayList<>();
        for (int j = 1; j < row.length; j++) {
            int at = k + j;
            if (at >= 1 && at < ground.length) {
                steps.add(Integer.compare(row[j - 1], row[j]) == Integer.compare(ground[at - 1], ground[at]));
            }
        }
        return steps;
    }

    private static int match(List<Boolean> steps) {
        int match = 0;
        for (boolean agrees : steps) {
            match += agrees ? 1 : -1;
        }
        return match;
    }

    long laid(int v, int k, int what) {
        if (none(violins, v) || out(what, 0, 1)) {
            return LOST;
        }
        int[] row = violins.get(v).rings;
        if (row.length == 0 || oak.length == 0 || out(k, 1 - row.length, oak.length - 1)) {
            return LOST;
        }
        List<Boolean> steps = steps(row, oak, k);
        return what == 0 ? match(steps) : steps.size();
    }

    long best(int v, int what) {
        if (none(violins, v) || out(what, 0, 2)) {
            return LOST;
        }
        int[] row = violins.get(v).rings;
        long place = LOST;
        int most = 0;
        for (int k = 100; k >= -100; k--) {
            List<Boolean> steps = steps(row, oak, k);
            if (steps.size() >= 5 && (place == LOST || match(steps) >= most)) {
                place = k;
                most = match(steps);
            }
        }
        if (place == LOST) {
            return LOST;
        }
        return what == 0 ? place : what == 1 ? most : start + place + row.length - 1;
    }

    int oneTree(int v, int w) {
        if (none(violins, v) || none(violins, w)) {
            return UNKNOWN;
        }
        if (v == w) {
            return STATE;
        }
        for (int k = -20; k <= 20; k++) {
            List<Boolean> steps = steps(violins.get(v).rings, violins.get(w).rings, k);
            if (steps.size() >= 5 && !steps.contains(false)) {
                return 1;
            }
        }
        return 0;
    }

    // ---- 6 the contract

    private static boolean isContract(String text) {
        if (text.isEmpty()) {
            return true;
        }
        String letters = "";
        for (String clause : text.split(";", -1)) {
            if (!clause.matches("[ABHY](0|[1-9][0-9]?[0-9]?)") || letters.indexOf(clause.charAt(0)) >= 0) {
                return false;
            }
            letters += clause.charAt(0);
        }
        return true;
    }

    /** A contract needs two signs more at most: a letter and a digit. */
    private static boolean someGoesOn(String text) {
        return isContract(text) || isContract(text + "0") || isContract(text + "A0") || isContract(text + "B0")
            || isContract(text + "H0") || isContract(text + "Y0");
    }

    int contract(int sheet, int lane, int i, int n) {
        fault = 0;
        if (out(sheet, 0, 3)) {
            return UNKNOWN;
        }
        if (out(lane, 0, 2)) {
            return OUTSIDE;
        }
        if (faultOf(sheet, lane, i, n) != 0) {
            return -10 - fault;
        }
        StringBuilder signs = new StringBuilder();
        for (int sign : cells(sheet, i, n)) {
            signs.append(out(sign, 33, 126) ? '#' : (char) sign);
        }
        String text = signs.toString();
        if (!isContract(text)) {
            int place = 0;
            while (place < n && someGoesOn(text.substring(0, place + 1))) {
                place++;
            }
            return -100 - place;
        }
        clauses.clear();
        for (String clause : text.split(";")) {
            if (!clause.isEmpty()) {
                clauses.put(clause.charAt(0), Integer.valueOf(clause.substring(1)));
            }
        }
        return clauses.size();
    }

    int clause(int letter) {
        return out(letter, 0, 3) ? UNKNOWN : clauses.getOrDefault("ABHY".charAt(letter), NONE);
    }

    // ---- sheets, parts

    int sheet(int k, int lane, int n) {
        fault = 0;
        if (out(k, 0, 3)) {
            return UNKNOWN;
        }
        if (out(lane, 0, 2) || n > 60) {
            return OUTSIDE;
        }
        if (n < 0) {
            fault = 4;
            return -14;
        }
        sheets[k] = new int[n];
        lanes[k] = lane;
        return 1;
    }

    int lose(int k) {
        if (out(k, 0, 3)) {
            return UNKNOWN;
        }
        int had = sheets[k] == null ? 0 : 1;
        sheets[k] = null;
        return had;
    }

    int put(int k, int i, int v) {
        fault = 0;
        if (out(k, 0, 3)) {
            return UNKNOWN;
        }
        if (faultOf(k, lanes[k], i, 1) != 0) {
            return -10 - fault;
        }
        int bits = 8 << lanes[k];
        sheets[k][i] = v << 32 - bits >> 32 - bits;
        return 1;
    }

    long at(int k, int i, int lane) {
        fault = 0;
        if (out(k, 0, 3) || out(lane, 0, 2) || faultOf(k, lane, i, 1) != 0) {
            return LOST;
        }
        return sheets[k][i];
    }

    int tell(int v) {
        return none(violins, v) ? UNKNOWN : violins.get(v).tell();
    }

    int praise(int v) {
        return none(violins, v) ? UNKNOWN : violins.get(v).praise();
    }

    int as(int v, int kind) {
        fault = 0;
        if (none(violins, v)) {
            return UNKNOWN;
        }
        if (out(kind, 0, 2)) {
            return OUTSIDE;
        }
        Violin one = violins.get(v);
        boolean is = kind == 0 || kind == 1 && one instanceof OldViolin || kind == 2 && one instanceof FamedViolin;
        fault = is ? 0 : 2;
        return is ? 1 : -12;
    }

    int trace() {
        return trace;
    }

    int fault() {
        return fault;
    }

    int many(int what) {
        int[] all = {violins.size(), players.size(), loans.size(), looks.size(), holders.size(), trips.size(),
            oak.length, clauses.size()};
        return out(what, 0, 7) ? OUTSIDE : all[what];
    }
}
