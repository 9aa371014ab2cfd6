import java.util.ArrayList;
import java.util.List;
import java.util.Random;

/** The searches of the class against slow ones that do word by word what the document says, on many small cases. */
public final class ModelTest {
    private static final Due due = new Due();
    private static final Random random = new Random(20261119);

    public static void main(String[] args) {
        for (int round = 0; round < 400; round++) {
            lendings();
            moves();
            looks();
            holders();
            trips();
            damp();
            rings();
            contract();
        }
        bigLendings();
        due.end();
    }

    private static int below(int n) {
        return random.nextInt(n);
    }

    // ---- lendings

    private static int[][] trials;
    private static int[] ranks;

    private static LentFiddles withLendings(int players, int violins, int mostTrial, int mostRank, int sparse) {
        LentFiddles x = new LentFiddles();
        int[] makers = new int[violins];
        trials = new int[players][violins];
        ranks = new int[players];
        for (int v = 0; v < violins; v++) {
            makers[v] = below(4);
            x.violin(below(3), makers[v], 1 + below(9));
        }
        for (int p = 0; p < players; p++) {
            ranks[p] = below(mostRank);
            x.player(ranks[p]);
            int had = below(4);
            if (had < 3 && below(2) == 0) {
                x.had(p, had, true);
            } else {
                had = -1;
            }
            for (int v = 0; v < violins; v++) {
                int t = below(sparse) == 0 ? below(mostTrial) : 0;
                x.trial(p, v, t);
                trials[p][v] = makers[v] == had ? 0 : t;
            }
        }
        return x;
    }

    private static int bestSum;
    private static int[] bestRow;

    /** All rows in their order, none behind all violins: the first of the greatest sum stays. */
    private static void allRows(int p, int used, int sum, int[] row) {
        if (p == trials.length) {
            if (sum > bestSum) {
                bestSum = sum;
                bestRow = row.clone();
            }
            return;
        }
        for (int v = 0; v < trials[p].length; v++) {
            if (trials[p][v] > 0 && (used >> v & 1) == 0) {
                row[p] = v;
                allRows(p + 1, used | 1 << v, sum + trials[p][v], row);
            }
        }
        row[p] = -9;
        allRows(p + 1, used, sum, row);
    }

    /** Players ask in the order in which they like violins; each violin keeps the best of those who asked. */
    private static int[] askAll(int violins) {
        int players = trials.length;
        int[] kept = new int[violins];
        java.util.Arrays.fill(kept, -1);
        int[] has = new int[players];
        java.util.Arrays.fill(has, -9);
        boolean[][] asked = new boolean[players][violins];
        boolean moved = true;
        while (moved) {
            moved = false;
            for (int p = players - 1; p >= 0; p--) {
                int next = -1;
                for (int v = 0; v < violins; v++) {
                    if (!asked[p][v] && trials[p][v] > 0 && (next < 0 || trials[p][v] > trials[p][next])) {
                        next = v;
                    }
                }
                if (has[p] < 0 && next >= 0) {
                    moved = true;
                    asked[p][next] = true;
                    int other = kept[next];
                    if (other < 0 || ranks[p] > ranks[other] || ranks[p] == ranks[other] && p < other) {
                        kept[next] = p;
                        has[p] = next;
                        if (other >= 0) {
                            has[other] = -9;
                        }
                    }
                }
            }
        }
        return has;
    }

    private static void lendings() {
        int players = below(6);
        int violins = below(6);
        LentFiddles x = withLendings(players, violins, 1 + below(6), 1 + below(4), 1);
        bestSum = -1;
        allRows(0, 0, 0, new int[players]);
        due.is(9, "sum", x.sum(), bestSum);
        int[] calm = askAll(violins);
        for (int p = 0; p < players; p++) {
            due.is(10, "best", x.lent(p, 0), bestRow[p]);
            due.is(10, "calm", x.lent(p, 1), calm[p]);
        }
        quarrels(x, players, violins);
        due.is(11, "the calm one is calm", quarrelsOf(x, calm), 0);
    }

    private static int quarrelsOf(LentFiddles x, int[] row) {
        int[] cells = row.clone();
        for (int p = 0; p < cells.length; p++) {
            cells[p] = Math.max(-1, cells[p]);
        }
        Due.fill(x, 0, 0, cells);
        return x.quarrels(0, 0, 0);
    }

    private static void quarrels(LentFiddles x, int players, int violins) {
        int[] row = new int[players];
        boolean lending = true;
        int used = 0;
        for (int p = 0; p < players; p++) {
            row[p] = below(violins + 1 + below(20) / 19) - 1;
            if (row[p] >= 0) {
                lending &= row[p] < violins && trials[p][row[p]] > 0 && (used >> row[p] & 1) == 0;
                used |= 1 << row[p];
            }
        }
        Due.fill(x, 1, 1, row);
        if (!lending) {
            due.is(11, "no lending", x.quarrels(1, 1, 0), Due.OUTSIDE);
            due.is(12, "no lending", x.quarrel(1, 1, 0, 0), Due.OUTSIDE);
            return;
        }
        List<Integer> want = new ArrayList<>();
        for (int p = 0; p < players; p++) {
            for (int v = 0; v < violins; v++) {
                int holder = -1;
                for (int q = 0; q < players; q++) {
                    holder = row[q] == v ? q : holder;
                }
                boolean wants = row[p] < 0 || trials[p][row[p]] < trials[p][v];
                boolean gives = holder < 0 || ranks[holder] < ranks[p] || ranks[holder] == ranks[p] && holder > p;
                if (trials[p][v] > 0 && wants && gives) {
                    want.add(10 * p + v);
                }
            }
        }
        due.is(11, "quarrels", x.quarrels(1, 1, 0), want.size());
        for (int n = 0; n <= want.size(); n++) {
            due.is(12, "quarrel", x.quarrel(1, 1, 0, n), n < want.size() ? want.get(n) : Due.UNKNOWN);
        }
    }

    /** Ten players and ten violins against a search by sets of violins. */
    private static void bigLendings() {
        for (int round = 0; round < 120; round++) {
            int players = 7 + below(4);
            int violins = 7 + below(4);
            LentFiddles x = withLendings(players, violins, 2 + below(round < 60 ? 99 : 4), 3, 1 + below(8));
            int[][] most = new int[players + 1][1 << violins];
            for (int p = players - 1; p >= 0; p--) {
                for (int used = 0; used < 1 << violins; used++) {
                    most[p][used] = most[p + 1][used];
                    for (int v = 0; v < violins; v++) {
                        if (trials[p][v] > 0 && (used >> v & 1) == 0) {
                            most[p][used] = Math.max(most[p][used], trials[p][v] + most[p + 1][used | 1 << v]);
                        }
                    }
                }
            }
            due.is(9, "big sum", x.sum(), most[0][0]);
            int used = 0;
            int[] calm = askAll(violins);
            for (int p = 0; p < players; p++) {
                int has = -9;
                for (int v = violins - 1; v >= 0; v--) {
                    if (trials[p][v] > 0 && (used >> v & 1) == 0
                            && most[p][used] == trials[p][v] + most[p + 1][used | 1 << v]) {
                        has = v;
                    }
                }
                due.is(10, "big best", x.lent(p, 0), has);
                due.is(10, "big calm", x.lent(p, 1), calm[p]);
                used |= has < 0 ? 0 : 1 << has;
            }
        }
    }

    // ---- moves

    private static void moves() {
        int players = 1 + below(5);
        int violins = 1 + below(5);
        LentFiddles x = new LentFiddles();
        for (int v = 0; v < violins; v++) {
            x.violin(0, v, 1);
        }
        int[] has = new int[players];
        int[] wanted = new int[players];
        int lent = 0;
        int asked = 0;
        for (int p = 0; p < players; p++) {
            x.player(0);
            has[p] = below(violins + 1) - 1;
            if (has[p] >= 0 && (lent >> has[p] & 1) == 0) {
                lent |= 1 << has[p];
                x.trial(p, has[p], 1);
                x.lend(p, has[p], 3, 5);
            } else {
                has[p] = -1;
            }
            wanted[p] = below(violins + 1) - 1;
            if (wanted[p] >= 0 && (asked >> wanted[p] & 1) == 1) {
                wanted[p] = -1;
            }
            asked |= wanted[p] < 0 ? 0 : 1 << wanted[p];
        }
        Due.fill(x, 0, 0, wanted);
        for (int hands = 1; hands <= 5; hands++) {
            due.is(22, "days", x.days(4, hands, 0, 0, 0), fewestDays(has, wanted, hands));
        }
    }

    /** From no move done to all, by days: each set of moves that may be done on one day is tried. */
    private static int fewestDays(int[] has, int[] wanted, int hands) {
        List<int[]> moves = new ArrayList<>();
        for (int p = 0; p < has.length; p++) {
            if (has[p] >= 0 && has[p] != wanted[p]) {
                moves.add(new int[] {p, has[p], 0});
            }
            if (wanted[p] >= 0 && wanted[p] != has[p]) {
                moves.add(new int[] {p, wanted[p], 1});
            }
        }
        int count = moves.size();
        int[] days = new int[1 << count];
        java.util.Arrays.fill(days, 1000);
        days[0] = 0;
        for (int done = 0; done < 1 << count; done++) {
            int open = 0;
            for (int m = 0; m < count; m++) {
                if ((done >> m & 1) == 0 && isFree(moves, m, done)) {
                    open |= 1 << m;
                }
            }
            for (int set = open; set > 0; set = (set - 1) & open) {
                if (Integer.bitCount(set) <= hands) {
                    days[done | set] = Math.min(days[done | set], days[done] + 1);
                }
            }
        }
        return days[(1 << count) - 1];
    }

    private static boolean isFree(List<int[]> moves, int m, int done) {
        int[] move = moves.get(m);
        for (int other = 0; other < moves.size(); other++) {
            int[] ahead = moves.get(other);
            boolean holdsUp = move[2] == 1 && ahead[2] == 0 && (ahead[0] == move[0] || ahead[1] == move[1]);
            if (holdsUp && (done >> other & 1) == 0) {
                return false;
            }
        }
        return true;
    }

    // ---- looks

    private static void looks() {
        LentFiddles x = new LentFiddles();
        x.violin(0, 0, 1);
        x.violin(0, 1, 1);
        int[][] at = new int[2][20];
        for (int[] days : at) {
            java.util.Arrays.fill(days, -1);
        }
        for (int n = 0; n < 12; n++) {
            int v = below(2);
            int day = below(20);
            int cracks = below(8) | below(8);
            int got = x.look(v, day, cracks);
            due.is(18, "look", got, at[v][day] >= 0 ? Due.STATE : x.many(3) - 1);
            at[v][day] = at[v][day] >= 0 ? at[v][day] : cracks;
        }
        for (int p = 0; p < 4; p++) {
            x.player(0);
            x.trial(p, 0, 1);
            int from = below(20);
            x.lend(p, 0, from, from + below(8));
        }
        for (int c = 0; c < 4; c++) {
            crack(x, at[0], c);
        }
        int wrongs = 0;
        for (int day = 0; day < 20; day++) {
            boolean wrong = false;
            for (int ahead = 0; ahead < day; ahead++) {
                wrong |= at[0][day] >= 0 && at[0][ahead] >= 0 && (at[0][ahead] & ~at[0][day]) != 0;
            }
            wrongs += wrong ? 1 : 0;
        }
        due.is(21, "wrongs", x.wrongs(0), wrongs);
    }

    private static void crack(LentFiddles x, int[] at, int c) {
        int first = 0;
        for (int day = 0; day < 20; day++) {
            if (at[day] >= 0 && (at[day] >> c & 1) == 1) {
                due.is(19, "born first", x.born(0, c, 0), first);
                due.is(19, "born last", x.born(0, c, 1), day);
                int blamed = x.on(0, 0, day);
                for (int other = first; other < day; other++) {
                    blamed = x.on(0, 0, other) == blamed ? blamed : Due.NONE;
                }
                due.is(20, "blame", x.blame(0, c), blamed);
                return;
            }
            first = at[day] >= 0 ? day + 1 : first;
        }
        due.is(19, "never born", x.born(0, c, 0), Due.NONE);
        due.is(20, "nobody", x.blame(0, c), Due.NONE);
    }

    // ---- holders

    private static void holders() {
        LentFiddles x = new LentFiddles();
        x.violin(0, 0, 1);
        x.violin(0, 0, 1);
        List<int[]> held = new ArrayList<>();
        int count = below(7);
        for (int n = 0; n < count; n++) {
            int[] h = {below(3), 1500 + below(30), 0};
            h[2] = h[1] + below(6);
            held.add(h);
            x.holder(0, h[0], h[1], h[2]);
            x.holder(1, below(3), 1500 + below(600), 2100);
        }
        List<int[]> gaps = gapsOf(held);
        due.is(24, "gaps", x.gaps(0, 0), gaps.size());
        for (int i = 0; i < gaps.size(); i++) {
            due.is(25, "gap's first", x.gap(0, i, 0), gaps.get(i)[0]);
            due.is(25, "gap's last", x.gap(0, i, 1), gaps.get(i)[1]);
        }
        due.is(25, "no gap", x.gap(0, gaps.size(), 0), Due.UNKNOWN);
        int quarrels = 0;
        for (int[] a : held) {
            for (int[] b : held) {
                boolean shared = false;
                for (int year = a[1]; year <= a[2]; year++) {
                    shared |= b[1] <= year && year <= b[2];
                }
                quarrels += a[0] < b[0] && shared ? 1 : 0;
            }
        }
        due.is(24, "quarrels", x.gaps(0, 1), quarrels);
        for (int year = 1500; year < 1537; year++) {
            for (int name = 0; name < 4; name++) {
                due.is(26, "claim", x.claim(0, name, year), claimOf(held, gaps, name, year));
            }
        }
    }

    private static boolean anyHas(List<int[]> held, int year) {
        for (int[] h : held) {
            if (h[1] <= year && year <= h[2]) {
                return true;
            }
        }
        return false;
    }

    private static List<int[]> gapsOf(List<int[]> held) {
        List<int[]> gaps = new ArrayList<>();
        int latest = 0;
        for (int year = 1500; year <= 2100; year++) {
            if (anyHas(held, year)) {
                if (latest > 0 && latest < year - 1) {
                    gaps.add(new int[] {latest + 1, year - 1});
                }
                latest = year;
            }
        }
        return gaps;
    }

    private static int claimOf(List<int[]> held, List<int[]> gaps, int name, int year) {
        int[] taken = null;
        int[] next = null;
        boolean another = false;
        for (int[] h : held) {
            boolean has = h[1] <= year && year <= h[2];
            taken = taken == null && has && h[0] == name ? h : taken;
            another |= has && h[0] != name;
            next = h[1] > year && (next == null || h[1] < next[1]) ? h : next;
        }
        if (taken != null && !anyHas(held, taken[2] + 1) && next != null && next[0] != name) {
            return 2;
        }
        for (int[] gap : gaps) {
            if (gap[0] <= year && year <= gap[1]) {
                return 1;
            }
        }
        return taken != null && another ? 1 : 0;
    }

    // ---- trips

    private static void trips() {
        LentFiddles x = new LentFiddles();
        int violins = 1 + below(8);
        int[] worths = new int[violins];
        for (int v = 0; v < violins; v++) {
            worths[v] = 1 + below(12);
            x.violin(0, 0, worths[v]);
        }
        List<int[]> trips = new ArrayList<>();
        for (int n = 0; n < 12; n++) {
            int[] t = {below(violins), below(3), below(3) == 0 ? below(2) : -1};
            boolean already = false;
            for (int[] other : trips) {
                already |= other[0] == t[0] && other[1] == t[1];
            }
            due.is(27, "trip", x.trip(t[0], t[1], t[2]), already ? Due.STATE : trips.size());
            if (!already) {
                trips.add(t);
            }
        }
        int limit = 1 + below(40);
        x.limit(limit);
        int over = 0;
        for (int day = 0; day < 4; day++) {
            over += spread(x, trips, worths, day) > limit ? 1 : 0;
        }
        due.is(32, "over", x.over(), over);
    }

    private static int spread(LentFiddles x, List<int[]> trips, int[] worths, int day) {
        List<Integer> free = new ArrayList<>();
        for (int t = 0; t < trips.size(); t++) {
            if (trips.get(t)[1] == day && trips.get(t)[2] < 0) {
                free.add(t);
            }
        }
        int least = Integer.MAX_VALUE;
        int[] row = null;
        for (int way = 0; way < 1 << free.size(); way++) {
            int[] planes = new int[trips.size()];
            for (int t = 0; t < planes.length; t++) {
                planes[t] = trips.get(t)[2];
            }
            for (int f = 0; f < free.size(); f++) {
                planes[free.get(f)] = way >> (free.size() - 1 - f) & 1;
            }
            int[] sums = new int[2];
            for (int t = 0; t < planes.length; t++) {
                if (trips.get(t)[1] == day) {
                    sums[planes[t]] += worths[trips.get(t)[0]];
                }
            }
            if (Math.max(sums[0], sums[1]) < least) {
                least = Math.max(sums[0], sums[1]);
                row = planes;
            }
        }
        due.is(29, "spread", x.spread(day), least);
        for (int t = 0; t < trips.size(); t++) {
            if (trips.get(t)[1] == day) {
                due.is(30, "plane", x.plane(t), row[t]);
            }
        }
        return least;
    }

    // ---- damp

    private static void damp() {
        int n = below(14);
        int[] hours = new int[n];
        for (int j = 0; j < n; j++) {
            hours[j] = below(3) == 0 ? -1 : below(5);
        }
        int a = below(5);
        int b = a + below(5 - a);
        int longest = 0;
        int worst = 0;
        for (int first = 0; first < n; first++) {
            boolean told = false;
            for (int last = first; last < n && (hours[last] < a || hours[last] > b); last++) {
                told |= hours[last] != -1;
                longest = Math.max(longest, last - first + 1);
                worst = told ? Math.max(worst, last - first + 1) : worst;
            }
        }
        LentFiddles x = new LentFiddles();
        Due.fill(x, 0, 0, hours);
        due.is(33, "the longest", x.damp(0, 0, 0, n, a, b, 0), longest);
        due.is(33, "worst", x.damp(0, 0, 0, n, a, b, 1), worst);
    }

    // ---- rings

    private static int[] widths(int n) {
        int[] row = new int[n];
        for (int j = 0; j < n; j++) {
            row[j] = 1 + below(3);
        }
        return row;
    }

    /** Agreeing steps and others, a's first ring at b's k-th. */
    private static int[] stepsOf(int[] a, int[] b, int k) {
        int[] counts = new int[2];
        for (int j = 0; j + 1 < b.length; j++) {
            int i = j - k;
            if (i >= 0 && i + 1 < a.length) {
                counts[Integer.signum(a[i + 1] - a[i]) == Integer.signum(b[j + 1] - b[j]) ? 0 : 1]++;
            }
        }
        return counts;
    }

    private static void rings() {
        LentFiddles x = new LentFiddles();
        x.violin(0, 0, 1);
        x.violin(0, 0, 1);
        int[] row = widths(below(13));
        int[] other = below(3) == 0 ? widths(below(13)) : java.util.Arrays.copyOfRange(row, Math.min(row.length, 2),
            Math.max(row.length - below(2), Math.min(row.length, 2)));
        int[] oak = widths(below(25));
        int start = below(2101);
        Due.fill(x, 0, 0, row);
        x.rings(0, 0, 0, 0, row.length);
        Due.fill(x, 0, 0, other);
        x.rings(1, 0, 0, 0, other.length);
        Due.fill(x, 0, 0, oak);
        x.oak(0, 0, 0, oak.length, start);
        long place = Due.LOST;
        int match = 0;
        for (int k = -14; k < 27; k++) {
            int[] counts = stepsOf(row, oak, k);
            boolean laid = row.length > 0 && oak.length > 0 && k >= 1 - row.length && k <= oak.length - 1;
            due.is(36, "match", x.laid(0, k, 0), laid ? counts[0] - counts[1] : Due.LOST);
            due.is(36, "steps", x.laid(0, k, 1), laid ? counts[0] + counts[1] : Due.LOST);
            if (counts[0] + counts[1] >= 5 && (place == Due.LOST || counts[0] - counts[1] > match)) {
                place = k;
                match = counts[0] - counts[1];
            }
        }
        due.is(37, "k", x.best(0, 0), place);
        due.is(37, "match", x.best(0, 1), place == Due.LOST ? Due.LOST : match);
        due.is(37, "year", x.best(0, 2), place == Due.LOST ? Due.LOST : start + place + row.length - 1);
        int tree = 0;
        for (int k = -14; k < 14; k++) {
            int[] counts = stepsOf(row, other, k);
            tree |= counts[0] >= 5 && counts[1] == 0 ? 1 : 0;
        }
        due.is(38, "one tree", x.oneTree(0, 1), tree);
        due.is(38, "one tree", x.oneTree(1, 0), tree);
    }

    // ---- the contract

    private static boolean isContract(String text) {
        if (text.isEmpty()) {
            return true;
        }
        if (!text.matches("[ABHY](0|[1-9][0-9]{0,2})(;[ABHY](0|[1-9][0-9]{0,2}))*")) {
            return false;
        }
        for (char letter : "ABHY".toCharArray()) {
            if (text.indexOf(letter) != text.lastIndexOf(letter)) {
                return false;
            }
        }
        return true;
    }

    private static boolean goesOn(String text) {
        boolean on = isContract(text) || isContract(text + "1");
        for (char letter : "ABHY".toCharArray()) {
            on |= isContract(text + letter + "1");
        }
        return on;
    }

    private static void contract() {
        String[] parts = {"A", "B", "H", "Y", ";", ";", "0", "1", "5", "12", "345", "A7", "B0", ";H30", ";Y365", ";B9", "x"};
        StringBuilder build = new StringBuilder();
        int count = below(8);
        for (int n = 0; n < count; n++) {
            build.append(parts[below(parts.length)]);
        }
        String text = build.toString();
        int want = text.isEmpty() ? 0 : text.split(";").length;
        if (!isContract(text)) {
            int place = 0;
            while (place < text.length() && goesOn(text.substring(0, place + 1))) {
                place++;
            }
            want = -100 - place;
        }
        LentFiddles x = new LentFiddles();
        Due.write(x, 0, text);
        due.is(39, "contract " + text, x.contract(0, 0, 0, text.length()), want);
        due.is(39, "clauses of " + text, x.many(7), Math.max(0, want));
        for (int letter = 0; letter < 4; letter++) {
            int at = want < 0 ? -1 : text.indexOf("ABHY".charAt(letter));
            int end = at < 0 || text.indexOf(';', at) < 0 ? text.length() : text.indexOf(';', at);
            due.is(40, "clause of " + text, x.clause(letter), at < 0 ? -9 : Integer.parseInt(text.substring(at + 1, end)));
        }
    }
}
