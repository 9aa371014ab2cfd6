import java.util.Arrays;

/** A foundation's violins and the players who have them for a while; the document tells what each call promises. */
public final class LentFiddles {
    public static final int UNKNOWN = -1, OUTSIDE = -2, STATE = -3, FULL = -4, NONE = -9;
    public static final long LOST = Long.MIN_VALUE;

    private static final int PLAIN = 0, OLD = 1, FAMED = 2;
    private static final int LAST_MAKER = 9, MOST_WORTH = 1000000, MOST_RANK = 99, MOST_TRIAL = 99;
    private static final int LAST_DAY = 100000, MOST_HANDS = 9, ALL_CRACKS = 65535, LAST_CRACK = 15;
    private static final int FIRST_YEAR = 1500, LAST_YEAR = 2100, LAST_NAME = 99;
    private static final int MOST_LIMIT = 100000000, MOST_DAMP = 100, MOST_WIDTH = 255;
    private static final int LAST_LANE = 2;
    private static final int NO_FAULT = 0, NULL = 1, CAST = 2, INDEX = 3, SIZE = 4;

    private final Violins violins = new Violins();
    private final Players players = new Players();
    private final Loans loans = new Loans();
    private final Looks looks = new Looks();
    private final Holders holders = new Holders();
    private final Trips trips = new Trips();
    private final Sheets sheets = new Sheets();
    private final Oak theOak = new Oak();
    private final Contract theContract = new Contract();
    private final Lendings lendings = new Lendings();
    private final Moves moves = new Moves();
    private int track = 0;
    private int latestFault = NO_FAULT;

    public LentFiddles() {
    }

    // ---- 1 violins, players

    public int violin(int kind, int maker, int worth) {
        if (!within(kind, PLAIN, FAMED) || !within(maker, 0, LAST_MAKER) || !within(worth, 1, MOST_WORTH)) {
            return OUTSIDE;
        }
        return violins.add(kind, maker, worth);
    }

    public int player(int rank) {
        if (!within(rank, 0, MOST_RANK)) {
            return OUTSIDE;
        }
        return players.add(rank);
    }

    public int trial(int p, int v, int t) {
        if (!players.knows(p) || !violins.knows(v)) {
            return UNKNOWN;
        }
        if (!within(t, 0, MOST_TRIAL)) {
            return OUTSIDE;
        }
        int was = players.trials[p][v];
        players.trials[p][v] = t;
        return was;
    }

    public int had(int p, int maker, boolean is) {
        if (!players.knows(p)) {
            return UNKNOWN;
        }
        if (!within(maker, 0, LAST_MAKER)) {
            return OUTSIDE;
        }
        int was = players.toldMakers[p];
        players.toldMakers[p] = is ? was | 1 << maker : was & ~(1 << maker);
        return players.toldMakers[p] == was ? 0 : 1;
    }

    public int may(int p, int v) {
        if (!players.knows(p) || !violins.knows(v)) {
            return UNKNOWN;
        }
        return mayHave(p, v) ? 1 : 0;
    }

    public int ofViolin(int v, int what) {
        if (!violins.knows(v)) {
            return UNKNOWN;
        }
        switch (what) {
            case 0: return violins.kinds[v];
            case 1: return violins.makers[v];
            case 2: return violins.worths[v];
            case 3: return violins.ringCounts[v];
            case 4: return timesIn(loans.violin, loans.count, v);
            case 5: return timesIn(looks.violin, looks.count, v);
            case 6: return timesIn(holders.violin, holders.count, v);
            case 7: return timesIn(trips.violin, trips.count, v);
            default: return OUTSIDE;
        }
    }

    public int ofPlayer(int p, int what) {
        if (!players.knows(p)) {
            return UNKNOWN;
        }
        switch (what) {
            case 0: return players.ranks[p];
            case 1: return players.hadMakers(p);
            case 2: return mayHaveSet(p);
            case 3: return timesIn(loans.player, loans.count, p);
            default: return OUTSIDE;
        }
    }

    public int sum() {
        lendings.read(players, violins);
        lendings.findBest();
        return lendings.sumOfTrials();
    }

    public int lent(int p, int which) {
        if (!players.knows(p)) {
            return UNKNOWN;
        }
        if (!within(which, 0, 1)) {
            return OUTSIDE;
        }
        lendings.read(players, violins);
        if (which == 0) {
            lendings.findBest();
        } else {
            lendings.findCalm();
        }
        int v = lendings.violinOf[p];
        return v < 0 ? NONE : v;
    }

    public int quarrels(int sheet, int lane, int i) {
        int refused = takeLending(sheet, lane, i);
        return refused != 0 ? refused : lendings.countQuarrels();
    }

    public int quarrel(int sheet, int lane, int i, int n) {
        latestFault = NO_FAULT;
        if (n < 0) {
            return UNKNOWN;
        }
        int refused = takeLending(sheet, lane, i);
        return refused != 0 ? refused : lendings.nthQuarrel(n);
    }

    // ---- 2 loans, looks, moves

    public int lend(int p, int v, int from, int to) {
        if (!players.knows(p) || !violins.knows(v)) {
            return UNKNOWN;
        }
        if (!within(from, 0, LAST_DAY) || !within(to, from, LAST_DAY)) {
            return OUTSIDE;
        }
        if (!mayHave(p, v) || loans.sharesDay(p, v, from, to)) {
            return STATE;
        }
        int number = loans.add(p, v, from, to);
        if (number >= 0) {
            players.lentMakers[p] |= 1 << violins.makers[v];
        }
        return number;
    }

    public int back(int l, int day) {
        if (!loans.knows(l)) {
            return UNKNOWN;
        }
        if (!within(day, loans.from[l], loans.to[l])) {
            return OUTSIDE;
        }
        int was = loans.to[l];
        loans.to[l] = day;
        return was;
    }

    public int warn(int l, int day) {
        if (!loans.knows(l)) {
            return UNKNOWN;
        }
        if (!within(day, 0, LAST_DAY)) {
            return OUTSIDE;
        }
        loans.warning[l] = day;
        return 1;
    }

    public int loan(int l, int what) {
        if (!loans.knows(l)) {
            return UNKNOWN;
        }
        switch (what) {
            case 0: return loans.player[l];
            case 1: return loans.violin[l];
            case 2: return loans.from[l];
            case 3: return loans.to[l];
            case 4: return loans.warning[l];
            case 5: return broken(l);
            default: return OUTSIDE;
        }
    }

    public int on(int who, int n, int day) {
        if (!within(who, 0, 1)) {
            return OUTSIDE;
        }
        if (who == 0 ? !violins.knows(n) : !players.knows(n)) {
            return UNKNOWN;
        }
        if (!within(day, 0, LAST_DAY)) {
            return OUTSIDE;
        }
        return loans.onDay(who == 0 ? loans.violin : loans.player, n, day);
    }

    public int look(int v, int day, int cracks) {
        if (!violins.knows(v)) {
            return UNKNOWN;
        }
        if (!within(day, 0, LAST_DAY) || !within(cracks, 0, ALL_CRACKS)) {
            return OUTSIDE;
        }
        if (looks.lookedOn(v, day)) {
            return STATE;
        }
        return looks.add(v, day, cracks);
    }

    public int born(int v, int c, int end) {
        if (!violins.knows(v) || !within(c, 0, LAST_CRACK)) {
            return UNKNOWN;
        }
        if (!within(end, 0, 1)) {
            return OUTSIDE;
        }
        int last = looks.firstDayWith(v, c);
        if (last == NONE) {
            return NONE;
        }
        return end == 0 ? looks.dayBehindLookAhead(v, last) : last;
    }

    public int blame(int v, int c) {
        if (!violins.knows(v) || !within(c, 0, LAST_CRACK)) {
            return UNKNOWN;
        }
        int last = looks.firstDayWith(v, c);
        if (last == NONE) {
            return NONE;
        }
        return loans.withDays(v, looks.dayBehindLookAhead(v, last), last);
    }

    public int wrongs(int v) {
        return violins.knows(v) ? looks.countWrong(v) : UNKNOWN;
    }

    public int days(int day, int hands, int sheet, int lane, int i) {
        latestFault = NO_FAULT;
        if (!sheets.knows(sheet)) {
            return UNKNOWN;
        }
        if (!isLane(lane) || !within(day, 0, LAST_DAY) || !within(hands, 1, MOST_HANDS)) {
            return OUTSIDE;
        }
        int refused = met(sheets.take(sheet, lane, i, players.count));
        if (refused != 0) {
            return refused;
        }
        moves.readHands(loans, day);
        if (!moves.want(sheets.taken, players.count, violins.count)) {
            return OUTSIDE;
        }
        return moves.fewestDays(hands);
    }

    // ---- 3 holders

    public int holder(int v, int name, int from, int to) {
        if (!violins.knows(v)) {
            return UNKNOWN;
        }
        if (!within(name, 0, LAST_NAME) || !within(from, FIRST_YEAR, LAST_YEAR) || !within(to, from, LAST_YEAR)) {
            return OUTSIDE;
        }
        return holders.add(v, name, from, to);
    }

    public int gaps(int v, int what) {
        if (!violins.knows(v)) {
            return UNKNOWN;
        }
        switch (what) {
            case 0: return holders.countGaps(v);
            case 1: return holders.countQuarrels(v);
            default: return OUTSIDE;
        }
    }

    public int gap(int v, int i, int end) {
        if (!violins.knows(v) || i < 0 || !holders.findGap(v, i)) {
            return UNKNOWN;
        }
        switch (end) {
            case 0: return holders.gapFrom;
            case 1: return holders.gapTo;
            default: return OUTSIDE;
        }
    }

    public int claim(int v, int name, int year) {
        if (!violins.knows(v)) {
            return UNKNOWN;
        }
        if (!within(name, 0, LAST_NAME) || !within(year, FIRST_YEAR, LAST_YEAR)) {
            return OUTSIDE;
        }
        if (holders.stands(v, name, year)) {
            return 2;
        }
        return holders.isOpen(v, name, year) ? 1 : 0;
    }

    // ---- 4 trips, damp

    public int trip(int v, int day, int plane) {
        if (!violins.knows(v)) {
            return UNKNOWN;
        }
        if (!within(day, 0, LAST_DAY) || !within(plane, -1, 1)) {
            return OUTSIDE;
        }
        if (trips.countBetween(v, day, day) > 0) {
            return STATE;
        }
        return trips.add(v, day, plane);
    }

    public int fix(int t, int plane) {
        if (!trips.knows(t)) {
            return UNKNOWN;
        }
        if (!within(plane, -1, 1)) {
            return OUTSIDE;
        }
        int was = trips.told[t];
        trips.told[t] = plane;
        return was == -1 ? NONE : was;
    }

    public int spread(int day) {
        if (!within(day, 0, LAST_DAY)) {
            return OUTSIDE;
        }
        trips.weigh(day, violins);
        return trips.leastRisk;
    }

    public int plane(int t) {
        if (!trips.knows(t)) {
            return UNKNOWN;
        }
        trips.weigh(trips.day[t], violins);
        return trips.planeOf(t);
    }

    public int limit(int v) {
        if (!within(v, 1, MOST_LIMIT)) {
            return OUTSIDE;
        }
        int was = trips.mostRisk;
        trips.mostRisk = v;
        return was;
    }

    public int over() {
        return trips.countDaysOver(violins);
    }

    public int damp(int sheet, int lane, int i, int n, int a, int b, int what) {
        latestFault = NO_FAULT;
        if (!sheets.knows(sheet)) {
            return UNKNOWN;
        }
        if (!isLane(lane) || !within(a, 0, MOST_DAMP) || !within(b, a, MOST_DAMP) || !within(what, 0, 1)) {
            return OUTSIDE;
        }
        int refused = met(sheets.take(sheet, lane, i, n));
        if (refused != 0) {
            return refused;
        }
        if (!sheets.takenWithin(n, -1, MOST_DAMP)) {
            return OUTSIDE;
        }
        return sheets.longestRun(n, a, b, what == 1);
    }

    // ---- 5 rings

    public int rings(int v, int sheet, int lane, int i, int n) {
        latestFault = NO_FAULT;
        if (!violins.knows(v) || !sheets.knows(sheet)) {
            return UNKNOWN;
        }
        if (!isLane(lane)) {
            return OUTSIDE;
        }
        int refused = met(sheets.take(sheet, lane, i, n));
        if (refused != 0) {
            return refused;
        }
        if (n > Violins.MOST_RINGS || !sheets.takenWithin(n, 1, MOST_WIDTH)) {
            return OUTSIDE;
        }
        System.arraycopy(sheets.taken, 0, violins.widths[v], 0, n);
        violins.ringCounts[v] = n;
        return n;
    }

    public int oak(int sheet, int lane, int i, int n, int start) {
        latestFault = NO_FAULT;
        if (!sheets.knows(sheet)) {
            return UNKNOWN;
        }
        if (!isLane(lane) || !within(start, 0, LAST_YEAR)) {
            return OUTSIDE;
        }
        int refused = met(sheets.take(sheet, lane, i, n));
        if (refused != 0) {
            return refused;
        }
        if (!sheets.takenWithin(n, 1, MOST_WIDTH)) {
            return OUTSIDE;
        }
        System.arraycopy(sheets.taken, 0, theOak.widths, 0, n);
        theOak.count = n;
        theOak.start = start;
        return n;
    }

    public long laid(int v, int k, int what) {
        if (!violins.knows(v) || !within(what, 0, 1)) {
            return LOST;
        }
        int length = violins.ringCounts[v];
        if (length == 0 || theOak.count == 0 || !within(k, 1 - length, theOak.count - 1)) {
            return LOST;
        }
        theOak.lay(violins.widths[v], length, k);
        return what == 0 ? theOak.agreeing - theOak.unlike : theOak.agreeing + theOak.unlike;
    }

    public long best(int v, int what) {
        if (!violins.knows(v) || !theOak.findBest(violins.widths[v], violins.ringCounts[v])) {
            return LOST;
        }
        switch (what) {
            case 0: return theOak.bestPlace;
            case 1: return theOak.bestMatch;
            case 2: return theOak.start + theOak.bestPlace + violins.ringCounts[v] - 1;
            default: return LOST;
        }
    }

    public int oneTree(int v, int w) {
        if (!violins.knows(v) || !violins.knows(w)) {
            return UNKNOWN;
        }
        if (v == w) {
            return STATE;
        }
        return theOak.growsLike(violins, v, w) ? 1 : 0;
    }

    // ---- 6 the contract

    public int contract(int sheet, int lane, int i, int n) {
        int refused = takeCells(sheet, lane, i, n);
        if (refused != 0) {
            return refused;
        }
        int place = theContract.read(sheets.taken, n);
        return place == Contract.NO_PLACE ? theContract.count : -100 - place;
    }

    public int clause(int letter) {
        return within(letter, 0, Contract.LAST_LETTER) ? theContract.numbers[letter] : UNKNOWN;
    }

    // ---- sheets, parts

    public int sheet(int k, int lane, int n) {
        latestFault = NO_FAULT;
        if (!sheets.knows(k)) {
            return UNKNOWN;
        }
        if (!isLane(lane) || n > Sheets.MOST_CELLS) {
            return OUTSIDE;
        }
        if (n < 0) {
            return met(SIZE);
        }
        sheets.renew(k, lane, n);
        return 1;
    }

    public int lose(int k) {
        if (!sheets.knows(k)) {
            return UNKNOWN;
        }
        boolean lost = sheets.lanes[k] != Sheets.NOTHING;
        sheets.renew(k, Sheets.NOTHING, 0);
        return lost ? 1 : 0;
    }

    public int put(int k, int i, int v) {
        latestFault = NO_FAULT;
        if (!sheets.knows(k)) {
            return UNKNOWN;
        }
        int refused = met(sheets.missing(k, i, 1));
        if (refused != 0) {
            return refused;
        }
        sheets.cells[k][i] = Sheets.cutTo(sheets.lanes[k], v);
        return 1;
    }

    public long at(int k, int i, int lane) {
        int refused = takeCells(k, lane, i, 1);
        return refused != 0 ? LOST : sheets.taken[0];
    }

    public int tell(int v) {
        if (!violins.knows(v)) {
            return UNKNOWN;
        }
        switch (violins.kinds[v]) {
            case OLD: return tellOld(v);
            case FAMED: return tellFamed(v);
            default: return tellPlain(v);
        }
    }

    public int praise(int v) {
        if (!violins.knows(v)) {
            return UNKNOWN;
        }
        return violins.kinds[v] == FAMED ? praiseFamed() : praiseLent(v);
    }

    public int as(int v, int kind) {
        latestFault = NO_FAULT;
        if (!violins.knows(v)) {
            return UNKNOWN;
        }
        if (!within(kind, PLAIN, FAMED)) {
            return OUTSIDE;
        }
        return violins.kinds[v] < kind ? met(CAST) : 1;
    }

    public int trace() {
        return track;
    }

    public int fault() {
        return latestFault;
    }

    public int many(int what) {
        switch (what) {
            case 0: return violins.count;
            case 1: return players.count;
            case 2: return loans.count;
            case 3: return looks.count;
            case 4: return holders.count;
            case 5: return trips.count;
            case 6: return theOak.count;
            case 7: return theContract.count;
            default: return OUTSIDE;
        }
    }

    // ---- what several calls share

    private static boolean within(int x, int low, int high) {
        return x >= low && x <= high;
    }

    private static boolean isLane(int lane) {
        return within(lane, 0, LAST_LANE);
    }

    private static int timesIn(int[] column, int count, int x) {
        int times = 0;
        for (int i = 0; i < count && i < column.length; i++) {
            if (column[i] == x) {
                times++;
            }
        }
        return times;
    }

    /** Keeps the fault for fault(); 0 if there was none, so that a call goes on. */
    private int met(int oneFault) {
        latestFault = oneFault;
        return oneFault == NO_FAULT ? 0 : -10 - oneFault;
    }

    private int takeCells(int sheet, int lane, int i, int n) {
        latestFault = NO_FAULT;
        if (!sheets.knows(sheet)) {
            return UNKNOWN;
        }
        return isLane(lane) ? met(sheets.take(sheet, lane, i, n)) : OUTSIDE;
    }

    private int takeLending(int sheet, int lane, int i) {
        int refused = takeCells(sheet, lane, i, players.count);
        if (refused != 0) {
            return refused;
        }
        lendings.read(players, violins);
        return lendings.accepts(sheets.taken) ? 0 : OUTSIDE;
    }

    private boolean mayHave(int p, int v) {
        return players.mayHave(p, v, violins.makers[v]);
    }

    private int mayHaveSet(int p) {
        int set = 0;
        for (int v = 0; v < violins.count; v++) {
            if (mayHave(p, v)) {
                set |= 1 << v;
            }
        }
        return set;
    }

    private int broken(int l) {
        int tripCount = trips.countBetween(loans.violin[l], loans.from[l], loans.to[l]);
        return theContract.brokenBy(loans, l, tripCount, players.ranks[loans.player[l]]);
    }

    private void leave(int body) {
        track = 31 * track + body;
    }

    private int tellPlain(int v) {
        leave(1);
        return violins.makers[v];
    }

    private int tellOld(int v) {
        leave(2);
        return tellPlain(v) + violins.ringCounts[v];
    }

    private int tellFamed(int v) {
        leave(3);
        int asOld = tellOld(v);
        return asOld + tellPlain(v);
    }

    private int praiseLent(int v) {
        leave(4);
        return v;
    }

    private int praiseFamed() {
        leave(5);
        return 70;
    }

    private static final class Violins {
        static final int MOST = 10, MOST_RINGS = 20;
        final int[] kinds = new int[MOST];
        final int[] makers = new int[MOST];
        final int[] worths = new int[MOST];
        final int[] ringCounts = new int[MOST];
        final int[][] widths = new int[MOST][MOST_RINGS];
        int count = 0;

        boolean knows(int v) {
            return v >= 0 && v < count;
        }

        int add(int kind, int maker, int worth) {
            if (count >= MOST) {
                return FULL;
            }
            kinds[count] = kind;
            makers[count] = maker;
            worths[count] = worth;
            return count++;
        }
    }

    private static final class Players {
        static final int MOST = 10;
        final int[] ranks = new int[MOST];
        final int[] toldMakers = new int[MOST];
        /** Loans are never taken back, so their makers can be gathered as they are lent. */
        final int[] lentMakers = new int[MOST];
        final int[][] trials = new int[MOST][Violins.MOST];
        int count = 0;

        boolean knows(int p) {
            return p >= 0 && p < count;
        }

        int add(int rank) {
            if (count >= MOST) {
                return FULL;
            }
            ranks[count] = rank;
            return count++;
        }

        int hadMakers(int p) {
            return toldMakers[p] | lentMakers[p];
        }

        boolean mayHave(int p, int v, int maker) {
            return trials[p][v] > 0 && (hadMakers(p) >> maker & 1) == 0;
        }
    }

    /** Finds lendings; it reads players and violins anew for each question, as they may have changed. */
    private static final class Lendings {
        static final int NOBODY = -1;
        /** A trial weighs more than all rows of violins' numbers, so that the row only parts like sums. */
        static final long TRIAL_WEIGHT = 25937424601L;
        /** Weights of a row's places, to the base 11: ten violins and none. */
        static final long[] PLACE_WEIGHTS = {
            2357947691L, 214358881L, 19487171L, 1771561L, 161051L, 14641L, 1331L, 121L, 11L, 1L};
        static final int ROW_NONE = 10;
        static final long FORBIDDEN = 1000000000000000L, FAR = 4000000000000000000L;
        static final int MOST_SEATS = Violins.MOST + Players.MOST;

        int playerCount = 0;
        int violinCount = 0;
        final int[] rank = new int[Players.MOST];
        /** Trials where a player may have the violin, else 0. */
        final int[][] liking = new int[Players.MOST][Violins.MOST];
        final int[] violinOf = new int[Players.MOST];
        final int[] playerOf = new int[Violins.MOST];
        // seats from 1 on: the violins, then one without a violin for each player; seat 0 is where a player starts
        final int[] sitter = new int[MOST_SEATS + 1];
        final int[] cameFrom = new int[MOST_SEATS + 1];
        final long[] slack = new long[MOST_SEATS + 1];
        final long[] seatPrice = new long[MOST_SEATS + 1];
        final long[] playerPrice = new long[Players.MOST + 1];

        void read(Players players, Violins violins) {
            playerCount = players.count;
            violinCount = violins.count;
            for (int p = 0; p < playerCount; p++) {
                rank[p] = players.ranks[p];
                for (int v = 0; v < violinCount; v++) {
                    liking[p][v] = players.mayHave(p, v, violins.makers[v]) ? players.trials[p][v] : 0;
                }
            }
            Arrays.fill(violinOf, NOBODY);
            Arrays.fill(playerOf, NOBODY);
        }

        void give(int p, int v) {
            violinOf[p] = v;
            playerOf[v] = p;
        }

        int sumOfTrials() {
            int sum = 0;
            for (int p = 0; p < playerCount; p++) {
                if (violinOf[p] >= 0) {
                    sum += liking[p][violinOf[p]];
                }
            }
            return sum;
        }

        /** The cheapest seating of all players, by augmenting paths with prices. */
        void findBest() {
            Arrays.fill(sitter, 0);
            Arrays.fill(seatPrice, 0L);
            Arrays.fill(playerPrice, 0L);
            for (int player = 1; player <= playerCount; player++) {
                seatOneMore(player);
            }
            for (int seat = 1; seat <= violinCount; seat++) {
                if (sitter[seat] > 0 && liking[sitter[seat] - 1][seat - 1] > 0) {
                    give(sitter[seat] - 1, seat - 1);
                }
            }
        }

        void seatOneMore(int player) {
            Arrays.fill(slack, FAR);
            sitter[0] = player;
            int seat = 0;
            int reached = 0;
            for (int step = 0; step <= MOST_SEATS && sitter[seat] != 0; step++) {
                reached |= 1 << seat;
                lookFrom(seat, reached);
                int next = nearest(reached);
                payFor(slack[next], reached);
                seat = next;
            }
            for (int step = 0; step <= MOST_SEATS && seat != 0; step++) {
                sitter[seat] = sitter[cameFrom[seat]];
                seat = cameFrom[seat];
            }
        }

        void lookFrom(int seat, int reached) {
            int player = sitter[seat];
            for (int other = 1; other <= violinCount + playerCount; other++) {
                long way = cost(player, other) - playerPrice[player] - seatPrice[other];
                if ((reached >> other & 1) == 0 && way < slack[other]) {
                    slack[other] = way;
                    cameFrom[other] = seat;
                }
            }
        }

        int nearest(int reached) {
            int found = 0;
            for (int seat = 1; seat <= violinCount + playerCount; seat++) {
                if ((reached >> seat & 1) == 0 && (found == 0 || slack[seat] < slack[found])) {
                    found = seat;
                }
            }
            return found;
        }

        void payFor(long way, int reached) {
            for (int seat = 0; seat <= violinCount + playerCount; seat++) {
                if ((reached >> seat & 1) == 0) {
                    slack[seat] -= way;
                } else {
                    playerPrice[sitter[seat]] += way;
                    seatPrice[seat] -= way;
                }
            }
        }

        long cost(int player, int seat) {
            long place = PLACE_WEIGHTS[player - 1];
            if (seat > violinCount) {
                return ROW_NONE * place;
            }
            int trial = liking[player - 1][seat - 1];
            return trial == 0 ? FORBIDDEN : (seat - 1) * place - trial * TRIAL_WEIGHT;
        }

        /** All violins rank the players alike, so asking comes out as each choosing in turn, the greatest first. */
        void findCalm() {
            int served = 0;
            for (int turn = 0; turn < playerCount; turn++) {
                int p = greatestOutside(served);
                int v = dearestFree(p);
                if (v != NOBODY) {
                    give(p, v);
                }
                served |= 1 << p;
            }
        }

        int greatestOutside(int served) {
            int found = NOBODY;
            for (int p = 0; p < playerCount; p++) {
                if ((served >> p & 1) == 0 && (found == NOBODY || isAhead(p, found))) {
                    found = p;
                }
            }
            return Math.max(found, 0);
        }

        int dearestFree(int p) {
            int found = NOBODY;
            int most = 0;
            for (int v = 0; v < violinCount; v++) {
                if (playerOf[v] == NOBODY && liking[p][v] > most) {
                    found = v;
                    most = liking[p][v];
                }
            }
            return found;
        }

        boolean isAhead(int p, int other) {
            return rank[p] > rank[other] || rank[p] == rank[other] && p < other;
        }

        /** Takes a told row as the lending; false if it is none. */
        boolean accepts(int[] row) {
            for (int p = 0; p < playerCount; p++) {
                int v = row[p];
                if (v != -1) {
                    if (v < 0 || v >= violinCount || liking[p][v] == 0 || playerOf[v] != NOBODY) {
                        return false;
                    }
                    give(p, v);
                }
            }
            return true;
        }

        boolean isQuarrel(int p, int v) {
            int own = violinOf[p] < 0 ? 0 : liking[p][violinOf[p]];
            return liking[p][v] > own && (playerOf[v] == NOBODY || isAhead(p, playerOf[v]));
        }

        int countQuarrels() {
            int quarrelCount = 0;
            for (int p = 0; p < playerCount; p++) {
                for (int v = 0; v < violinCount; v++) {
                    if (isQuarrel(p, v)) {
                        quarrelCount++;
                    }
                }
            }
            return quarrelCount;
        }

        int nthQuarrel(int n) {
            int left = n;
            for (int p = 0; p < playerCount; p++) {
                for (int v = 0; v < violinCount; v++) {
                    if (isQuarrel(p, v)) {
                        if (left == 0) {
                            return 10 * p + v;
                        }
                        left--;
                    }
                }
            }
            return UNKNOWN;
        }
    }

    private static final class Loans {
        static final int MOST = 40;
        final int[] player = new int[MOST];
        final int[] violin = new int[MOST];
        final int[] from = new int[MOST];
        final int[] to = new int[MOST];
        final int[] warning = new int[MOST];
        int count = 0;

        boolean knows(int l) {
            return l >= 0 && l < count;
        }

        int add(int p, int v, int first, int last) {
            if (count >= MOST) {
                return FULL;
            }
            player[count] = p;
            violin[count] = v;
            from[count] = first;
            to[count] = last;
            warning[count] = NONE;
            return count++;
        }

        boolean sharesDay(int p, int v, int first, int last) {
            for (int l = 0; l < count; l++) {
                if ((player[l] == p || violin[l] == v) && from[l] <= last && to[l] >= first) {
                    return true;
                }
            }
            return false;
        }

        int onDay(int[] column, int n, int day) {
            for (int l = 0; l < count; l++) {
                if (column[l] == n && from[l] <= day && to[l] >= day) {
                    return l;
                }
            }
            return NONE;
        }

        int withDays(int v, int first, int last) {
            for (int l = 0; l < count; l++) {
                if (violin[l] == v && from[l] <= first && to[l] >= last) {
                    return l;
                }
            }
            return NONE;
        }
    }

    private static final class Looks {
        static final int MOST = 40;
        final int[] violin = new int[MOST];
        final int[] day = new int[MOST];
        final int[] cracks = new int[MOST];
        int count = 0;

        int add(int v, int onDay, int seen) {
            if (count >= MOST) {
                return FULL;
            }
            violin[count] = v;
            day[count] = onDay;
            cracks[count] = seen;
            return count++;
        }

        boolean lookedOn(int v, int onDay) {
            for (int l = 0; l < count; l++) {
                if (violin[l] == v && day[l] == onDay) {
                    return true;
                }
            }
            return false;
        }

        int firstDayWith(int v, int crack) {
            int found = NONE;
            for (int l = 0; l < count; l++) {
                if (violin[l] == v && (cracks[l] >> crack & 1) == 1 && (found == NONE || day[l] < found)) {
                    found = day[l];
                }
            }
            return found;
        }

        int dayBehindLookAhead(int v, int ofDay) {
            int behind = 0;
            for (int l = 0; l < count; l++) {
                if (violin[l] == v && day[l] < ofDay) {
                    behind = Math.max(behind, day[l] + 1);
                }
            }
            return behind;
        }

        int countWrong(int v) {
            int wrong = 0;
            for (int l = 0; l < count; l++) {
                if (violin[l] == v && (seenAhead(v, day[l]) & ~cracks[l]) != 0) {
                    wrong++;
                }
            }
            return wrong;
        }

        int seenAhead(int v, int ofDay) {
            int seen = 0;
            for (int l = 0; l < count; l++) {
                if (violin[l] == v && day[l] < ofDay) {
                    seen |= cracks[l];
                }
            }
            return seen;
        }
    }

    private static final class Moves {
        static final int NOBODY = -1;
        final int[] violinOf = new int[Players.MOST];
        final int[] playerOf = new int[Violins.MOST];
        /** Who is to hand in, as a set. */
        int givers = 0;
        /** For each who gets a violin: the givers that must have handed in before, as a set. */
        final int[] waitsFor = new int[Players.MOST];
        int getCount = 0;

        void readHands(Loans loans, int day) {
            Arrays.fill(violinOf, NOBODY);
            Arrays.fill(playerOf, NOBODY);
            for (int l = 0; l < loans.count; l++) {
                if (loans.from[l] <= day && loans.to[l] >= day) {
                    violinOf[loans.player[l]] = loans.violin[l];
                    playerOf[loans.violin[l]] = loans.player[l];
                }
            }
        }

        /** False if the row is none of what players can want. */
        boolean want(int[] row, int playerCount, int violinCount) {
            int wanted = 0;
            givers = 0;
            getCount = 0;
            for (int p = 0; p < playerCount; p++) {
                int v = row[p];
                if (v < -1 || v >= violinCount || v >= 0 && (wanted >> v & 1) == 1) {
                    return false;
                }
                if (violinOf[p] != NOBODY && violinOf[p] != v) {
                    givers |= 1 << p;
                }
                if (v >= 0) {
                    wanted |= 1 << v;
                    addGet(p, v);
                }
            }
            return true;
        }

        void addGet(int p, int v) {
            if (violinOf[p] == v) {
                return;
            }
            int own = violinOf[p] == NOBODY ? 0 : 1 << p;
            int other = playerOf[v] == NOBODY ? 0 : 1 << playerOf[v];
            waitsFor[getCount] = own | other;
            getCount++;
        }

        /** Handing in waits for nothing and getting holds nothing up, so all hand in first; gets fill that last day. */
        int fewestDays(int hands) {
            int giverCount = Integer.bitCount(givers);
            int givingDays = daysFor(giverCount, hands);
            int early = 0;
            if (givingDays > 0) {
                int spare = givingDays * hands - giverCount;
                early = Math.min(spare, mostReadyAfter((givingDays - 1) * hands));
            }
            return givingDays + daysFor(getCount - early, hands);
        }

        static int daysFor(int moveCount, int hands) {
            return hands < 1 ? 0 : (moveCount + hands - 1) / hands;
        }

        /** How many can get theirs once so many have handed in, if the best ones did. */
        int mostReadyAfter(int handedIn) {
            int most = 0;
            for (int set = 0; set < 1 << Players.MOST; set++) {
                if ((set & ~givers) == 0 && Integer.bitCount(set) == handedIn) {
                    most = Math.max(most, readyAfter(set));
                }
            }
            return most;
        }

        int readyAfter(int set) {
            int ready = 0;
            for (int g = 0; g < getCount; g++) {
                if ((waitsFor[g] & ~set) == 0) {
                    ready++;
                }
            }
            return ready;
        }
    }

    private static final class Holders {
        static final int MOST = 40;
        static final int YEARS = LAST_YEAR - FIRST_YEAR + 1;
        static final int NOBODY = -1;
        final int[] violin = new int[MOST];
        final int[] name = new int[MOST];
        final int[] from = new int[MOST];
        final int[] to = new int[MOST];
        int count = 0;
        /** How many holders more have a year than the year ahead of it, by years from FIRST_YEAR on. */
        final int[] changes = new int[YEARS + 1];
        int gapCount = 0;
        int gapFrom = 0;
        int gapTo = 0;

        int add(int v, int ofName, int first, int last) {
            if (count >= MOST) {
                return FULL;
            }
            violin[count] = v;
            name[count] = ofName;
            from[count] = first;
            to[count] = last;
            return count++;
        }

        boolean has(int h, int year) {
            return from[h] <= year && to[h] >= year;
        }

        boolean isHeld(int v, int year) {
            for (int h = 0; h < count; h++) {
                if (violin[h] == v && has(h, year)) {
                    return true;
                }
            }
            return false;
        }

        void markYears(int v) {
            Arrays.fill(changes, 0);
            for (int h = 0; h < count; h++) {
                if (violin[h] == v) {
                    changes[from[h] - FIRST_YEAR]++;
                    changes[to[h] - FIRST_YEAR + 1]--;
                }
            }
        }

        int countGaps(int v) {
            findGap(v, 0);
            return gapCount;
        }

        /** Counts the gaps and keeps the n-th (gapFrom, gapTo); false if there are fewer. */
        boolean findGap(int v, int n) {
            markYears(v);
            gapCount = 0;
            int held = 0;
            int latest = NOBODY;
            for (int y = 0; y < YEARS; y++) {
                held += changes[y];
                if (held > 0) {
                    if (latest != NOBODY && latest < y - 1) {
                        keepGap(n, latest + 1, y - 1);
                    }
                    latest = y;
                }
            }
            return n < gapCount;
        }

        void keepGap(int n, int first, int last) {
            if (gapCount == n) {
                gapFrom = FIRST_YEAR + first;
                gapTo = FIRST_YEAR + last;
            }
            gapCount++;
        }

        int countQuarrels(int v) {
            int quarrelCount = 0;
            for (int h = 0; h < count; h++) {
                for (int g = 0; g < h; g++) {
                    if (violin[h] == v && violin[g] == v && name[h] != name[g]
                            && from[h] <= to[g] && from[g] <= to[h]) {
                        quarrelCount++;
                    }
                }
            }
            return quarrelCount;
        }

        boolean stands(int v, int ofName, int year) {
            int taken = firstHaving(v, ofName, year);
            if (taken == NOBODY || isHeld(v, to[taken] + 1)) {
                return false;
            }
            int next = nextAbove(v, year);
            return next != NOBODY && name[next] != ofName;
        }

        int firstHaving(int v, int ofName, int year) {
            for (int h = 0; h < count; h++) {
                if (violin[h] == v && name[h] == ofName && has(h, year)) {
                    return h;
                }
            }
            return NOBODY;
        }

        int nextAbove(int v, int year) {
            int found = NOBODY;
            for (int h = 0; h < count; h++) {
                if (violin[h] == v && from[h] > year && (found == NOBODY || from[h] < from[found])) {
                    found = h;
                }
            }
            return found;
        }

        boolean isOpen(int v, int ofName, int year) {
            if (!isHeld(v, year)) {
                return isHeldAround(v, year);
            }
            return firstHaving(v, ofName, year) != NOBODY && isHeldByOther(v, ofName, year);
        }

        boolean isHeldAround(int v, int year) {
            boolean ahead = false;
            boolean behind = false;
            for (int h = 0; h < count; h++) {
                if (violin[h] == v) {
                    ahead = ahead || to[h] < year;
                    behind = behind || from[h] > year;
                }
            }
            return ahead && behind;
        }

        boolean isHeldByOther(int v, int ofName, int year) {
            for (int h = 0; h < count; h++) {
                if (violin[h] == v && name[h] != ofName && has(h, year)) {
                    return true;
                }
            }
            return false;
        }
    }

    private static final class Trips {
        static final int MOST = 40, FREE = -1;
        final int[] violin = new int[MOST];
        final int[] day = new int[MOST];
        /** The plane as told, or FREE. */
        final int[] told = new int[MOST];
        int count = 0;
        int mostRisk = 1000000;
        // of the day that was weighed
        /** What goes in plane 1 of the free trips, by choices: bits for the free trips, the last one's the lowest. */
        final int[] loads = new int[1 << Violins.MOST];
        int freeWorth = 0;
        int freeCount = 0;
        final int[] fixedWorth = new int[2];
        int leastRisk = 0;
        int bestChoice = 0;

        boolean knows(int t) {
            return t >= 0 && t < count;
        }

        int add(int v, int onDay, int plane) {
            if (count >= MOST) {
                return FULL;
            }
            violin[count] = v;
            day[count] = onDay;
            told[count] = plane;
            return count++;
        }

        int countBetween(int v, int first, int last) {
            int found = 0;
            for (int t = 0; t < count; t++) {
                if (violin[t] == v && day[t] >= first && day[t] <= last) {
                    found++;
                }
            }
            return found;
        }

        void weigh(int onDay, Violins violins) {
            freeWorth = 0;
            freeCount = 0;
            Arrays.fill(fixedWorth, 0);
            for (int t = count - 1; t >= 0; t--) {
                if (day[t] == onDay) {
                    int worth = violins.worths[violin[t]];
                    if (told[t] == FREE) {
                        addFree(worth);
                    } else {
                        fixedWorth[told[t]] += worth;
                    }
                }
            }
            choose();
        }

        void addFree(int worth) {
            int choices = 1 << freeCount;
            if (2 * choices > loads.length) {
                return;
            }
            for (int choice = 0; choice < choices; choice++) {
                loads[choices + choice] = loads[choice] + worth;
            }
            freeWorth += worth;
            freeCount++;
        }

        /** Choices go up as the rows of the free trips do, so that the first of the least is the row asked for. */
        void choose() {
            bestChoice = 0;
            leastRisk = riskOf(0);
            for (int choice = 1; choice < 1 << freeCount; choice++) {
                int risk = riskOf(choice);
                if (risk < leastRisk) {
                    leastRisk = risk;
                    bestChoice = choice;
                }
            }
        }

        int riskOf(int choice) {
            return Math.max(fixedWorth[0] + freeWorth - loads[choice], fixedWorth[1] + loads[choice]);
        }

        int planeOf(int t) {
            if (told[t] != FREE) {
                return told[t];
            }
            int behind = 0;
            for (int other = t + 1; other < count; other++) {
                if (day[other] == day[t] && told[other] == FREE) {
                    behind++;
                }
            }
            return bestChoice >> behind & 1;
        }

        int countDaysOver(Violins violins) {
            int daysOver = 0;
            for (int t = 0; t < count; t++) {
                if (isFirstOfDay(t)) {
                    weigh(day[t], violins);
                    if (leastRisk > mostRisk) {
                        daysOver++;
                    }
                }
            }
            return daysOver;
        }

        boolean isFirstOfDay(int t) {
            for (int other = 0; other < t; other++) {
                if (day[other] == day[t]) {
                    return false;
                }
            }
            return true;
        }
    }

    private static final class Oak {
        static final int LEAST_STEPS = 5;
        final int[] widths = new int[Sheets.MOST_CELLS];
        int count = 0;
        int start = 0;
        // of the rows laid last
        int agreeing = 0;
        int unlike = 0;
        int bestPlace = 0;
        int bestMatch = 0;

        void lay(int[] row, int length, int place) {
            layOn(row, length, place, widths, count);
        }

        void layOn(int[] row, int length, int place, int[] ground, int groundLength) {
            agreeing = 0;
            unlike = 0;
            int last = Math.min(length, groundLength - place) - 1;
            for (int j = Math.max(0, -place); j < last; j++) {
                if (rise(row, j) == rise(ground, place + j)) {
                    agreeing++;
                } else {
                    unlike++;
                }
            }
        }

        static int rise(int[] row, int j) {
            if (row[j] == row[j + 1]) {
                return 0;
            }
            return row[j] < row[j + 1] ? 1 : -1;
        }

        boolean findBest(int[] row, int length) {
            boolean found = false;
            for (int place = 1 - length; place < count; place++) {
                lay(row, length, place);
                if (agreeing + unlike >= LEAST_STEPS && (!found || agreeing - unlike > bestMatch)) {
                    found = true;
                    bestPlace = place;
                    bestMatch = agreeing - unlike;
                }
            }
            return found;
        }

        boolean growsLike(Violins violins, int v, int w) {
            int length = violins.ringCounts[v];
            int groundLength = violins.ringCounts[w];
            for (int place = 1 - length; place < groundLength; place++) {
                layOn(violins.widths[v], length, place, violins.widths[w], groundLength);
                if (unlike == 0 && agreeing >= LEAST_STEPS) {
                    return true;
                }
            }
            return false;
        }
    }

    private static final class Contract {
        static final int A = 0, B = 1, H = 2, Y = 3, LAST_LETTER = 3;
        static final int NO_PLACE = -1, PARTING = 59, MOST_DIGITS = 3;
        final int[] numbers = {NONE, NONE, NONE, NONE};
        int count = 0;
        // of the text that is read
        final int[] draft = {NONE, NONE, NONE, NONE};
        int draftCount = 0;
        int letter = NONE;
        int digits = 0;

        /** Becomes what the signs tell, unless they do not; the fault's place then. */
        int read(int[] signs, int n) {
            Arrays.fill(draft, NONE);
            draftCount = 0;
            letter = NONE;
            digits = 0;
            for (int place = 0; place < n; place++) {
                if (!goesOn(signs[place])) {
                    return place;
                }
            }
            if (n > 0 && digits == 0) {
                return n;
            }
            System.arraycopy(draft, 0, numbers, 0, draft.length);
            count = draftCount;
            return NO_PLACE;
        }

        boolean goesOn(int sign) {
            if (letter == NONE) {
                return goesOnWithLetter(letterOf(sign));
            }
            if (sign == PARTING) {
                return goesOnWithParting();
            }
            return sign >= 48 && sign <= 57 && goesOnWithDigit(sign - 48);
        }

        boolean goesOnWithLetter(int next) {
            if (next == NONE || draft[next] != NONE) {
                return false;
            }
            letter = next;
            draft[next] = 0;
            draftCount++;
            return true;
        }

        /** With all letters told there is nothing that could stand behind. */
        boolean goesOnWithParting() {
            if (digits == 0 || draftCount > LAST_LETTER) {
                return false;
            }
            letter = NONE;
            digits = 0;
            return true;
        }

        boolean goesOnWithDigit(int digit) {
            if (digits == MOST_DIGITS || digits > 0 && draft[letter] == 0) {
                return false;
            }
            draft[letter] = 10 * draft[letter] + digit;
            digits++;
            return true;
        }

        static int letterOf(int sign) {
            switch (sign) {
                case 65: return A;
                case 66: return B;
                case 72: return H;
                case 89: return Y;
                default: return NONE;
            }
        }

        int brokenBy(Loans loans, int l, int tripCount, int rank) {
            int set = 0;
            if (numbers[A] != NONE && tripCount > numbers[A]) {
                set |= 1;
            }
            if (numbers[B] != NONE && (loans.warning[l] == NONE || loans.to[l] - loans.warning[l] < numbers[B])) {
                set |= 2;
            }
            if (numbers[H] != NONE && rank < numbers[H]) {
                set |= 4;
            }
            if (numbers[Y] != NONE && loans.to[l] - loans.from[l] + 1 > numbers[Y]) {
                set |= 8;
            }
            return set;
        }
    }

    private static final class Sheets {
        static final int MOST = 4, MOST_CELLS = 60, NOTHING = -1;
        final int[] lanes = {NOTHING, NOTHING, NOTHING, NOTHING};
        final int[] lengths = new int[MOST];
        final int[][] cells = new int[MOST][MOST_CELLS];
        /** The cells that a call took last. */
        final int[] taken = new int[MOST_CELLS];

        boolean knows(int k) {
            return k >= 0 && k < MOST;
        }

        void renew(int k, int lane, int n) {
            lanes[k] = lane;
            lengths[k] = n;
            Arrays.fill(cells[k], 0);
        }

        static int cutTo(int lane, int x) {
            switch (lane) {
                case 0: return (byte) x;
                case 1: return (short) x;
                default: return x;
            }
        }

        /** The fault on the way to n cells from i on. */
        int missing(int k, int i, int n) {
            if (lanes[k] == NOTHING) {
                return NULL;
            }
            if (n < 0) {
                return SIZE;
            }
            return i < 0 || i > lengths[k] || n > lengths[k] - i ? INDEX : NO_FAULT;
        }

        int take(int k, int lane, int i, int n) {
            if (lanes[k] != NOTHING && lanes[k] != lane) {
                return CAST;
            }
            int oneFault = missing(k, i, n);
            if (oneFault == NO_FAULT) {
                System.arraycopy(cells[k], i, taken, 0, n);
            }
            return oneFault;
        }

        boolean takenWithin(int n, int low, int high) {
            for (int j = 0; j < n && j < taken.length; j++) {
                if (taken[j] < low || taken[j] > high) {
                    return false;
                }
            }
            return true;
        }

        /** The longest run of hours missing or not from a to b; if so asked, with one that is told. */
        int longestRun(int n, int a, int b, boolean withTold) {
            int longest = 0;
            int run = 0;
            boolean told = false;
            for (int j = 0; j < n && j < taken.length; j++) {
                int hour = taken[j];
                if (hour >= a && hour <= b) {
                    run = 0;
                    told = false;
                } else {
                    run++;
                    told = told || hour != -1;
                    if (told || !withTold) {
                        longest = Math.max(longest, run);
                    }
                }
            }
            return longest;
        }
    }
}
