/**
 * The sentences of "Terms" that say where something begins and ends, each tried on both sides; the number is that of
 * the promise that rests on it.
 */
public final class TermsTest {
    private static final Due due = new Due();

    public static void main(String[] args) {
        nothingThere();
        fiveHundredCalls();
        hadByLoans();
        quarrelByTrial();
        quarrelByRank();
        likedMore();
        firstAsARow();
        sharedDays();
        bornFromTheLookAhead();
        blamedForAllDays();
        wrongBehind();
        loansOnTheDay();
        laterDays();
        handsOfADay();
        sharedYears();
        gapsBetween();
        claimStands();
        claimOpen();
        firstWayOfPlanes();
        fairFromTo();
        runsOfHours();
        risesFallsStays();
        fiveSteps();
        fiveStepsOfOneTree();
        lastRingsYear();
        clausesAtTheirNumbers();
        traceWraps();
        due.end();
    }

    /** Two violins of two makers and two players, each with a trial of 5 on each, of ranks 5. */
    private static LentFiddles ofTwo() {
        LentFiddles x = new LentFiddles();
        for (int n = 0; n < 2; n++) {
            x.violin(0, n, 10 + n);
            x.player(5);
        }
        for (int n = 0; n < 4; n++) {
            x.trial(n / 2, n % 2, 5);
        }
        return x;
    }

    /** Promises 8 to 12, 16, 17, 19 to 22, 24 to 26, 29, 32, 36 to 38, 40, 48: the answers where there is nothing. */
    private static void nothingThere() {
        LentFiddles x = new LentFiddles();
        x.violin(0, 0, 1);
        x.violin(0, 0, 1);
        x.player(0);
        due.is(9, "sum", x.sum(), 0);
        due.is(10, "best", x.lent(0, 0), Due.NONE);
        due.is(10, "calm", x.lent(0, 1), Due.NONE);
        due.is(8, "had", x.ofPlayer(0, 1), 0);
        due.is(8, "may", x.ofPlayer(0, 2), 0);
        Due.fill(x, 0, 0, -1);
        due.is(11, "quarrels", x.quarrels(0, 0, 0), 0);
        due.is(12, "the first quarrel", x.quarrel(0, 0, 0, 0), Due.UNKNOWN);
        due.is(17, "loan of a violin", x.on(0, 0, 0), Due.NONE);
        due.is(17, "loan of a player", x.on(1, 0, 0), Due.NONE);
        due.is(19, "born", x.born(0, 0, 0), Due.NONE);
        due.is(19, "born", x.born(0, 0, 1), Due.NONE);
        due.is(20, "blame", x.blame(0, 0), Due.NONE);
        due.is(21, "wrongs", x.wrongs(0), 0);
        due.is(22, "no moves", x.days(0, 1, 0, 0, 0), 0);
        due.is(24, "gaps", x.gaps(0, 0), 0);
        due.is(24, "quarrels", x.gaps(0, 1), 0);
        due.is(25, "the first gap", x.gap(0, 0, 0), Due.UNKNOWN);
        due.is(26, "claim", x.claim(0, 0, 1500), 0);
        due.is(29, "spread", x.spread(0), 0);
        due.is(32, "over", x.over(), 0);
        due.is(36, "laid", x.laid(0, 0, 0), Due.LOST);
        due.is(37, "best", x.best(0, 0), Due.LOST);
        due.is(38, "one tree", x.oneTree(0, 1), 0);
        due.is(40, "clause", x.clause(0), Due.NONE);
        due.is(48, "trace", x.trace(), 0);
        x.trial(0, 0, 1);
        x.lend(0, 0, 0, 0);
        due.is(16, "warning", x.loan(0, 4), Due.NONE);
        due.is(16, "broken", x.loan(0, 5), 0);
        x.look(0, 3, 0);
        due.is(19, "born, a look without it", x.born(0, 0, 0), Due.NONE);
        due.is(20, "blame, a look without it", x.blame(0, 0), Due.NONE);
    }

    /** "An object is used for at most 512 calls": the last of them is answered as the first. */
    private static void fiveHundredCalls() {
        LentFiddles x = ofTwo();
        x.sheet(0, 0, 1);
        for (int call = 10; call <= 512; call++) {
            int cell = call % 200 - 100;
            if (call % 2 == 0) {
                due.is(43, "call " + call, x.put(0, 0, cell), 1);
            } else {
                due.is(44, "call " + call, x.at(0, 0, 0), (call - 1) % 200 - 100);
            }
        }
        LentFiddles y = ofTwo();
        for (int call = 9; call <= 512; call++) {
            due.is(9, "call " + call, y.sum(), 10);
        }
    }

    /** HAD by LOANS, from when they are lent on, and once and for all; or told. */
    private static void hadByLoans() {
        LentFiddles x = ofTwo();
        x.lend(0, 0, 100, 200);
        due.is(8, "from when it is lent", x.ofPlayer(0, 1), 1);
        due.is(8, "he alone", x.ofPlayer(1, 1), 0);
        due.is(6, "may no more", x.may(0, 0), 0);
        due.is(6, "another maker", x.may(0, 1), 1);
        x.back(0, 100);
        due.is(8, "when it is back", x.ofPlayer(0, 1), 1);
        x.had(0, 0, false);
        due.is(8, "told not", x.ofPlayer(0, 1), 1);
        x.violin(0, 0, 1);
        x.trial(0, 2, 99);
        due.is(6, "another violin of the maker", x.may(0, 2), 0);
        due.is(13, "another violin of the maker", x.lend(0, 2, 0, 0), Due.STATE);
        x.had(0, 9, true);
        due.is(8, "the last maker", x.ofPlayer(0, 1), 1 | 1 << 9);
    }

    /** QUARREL: "if he has none there, or one of less TRIAL". */
    private static void quarrelByTrial() {
        int[] trials = {0, 1, 4, 5, 6, 99};
        int[] want = {0, 0, 0, 0, 1, 1};
        for (int n = 0; n < trials.length; n++) {
            LentFiddles x = ofTwo();
            x.trial(0, 1, trials[n]);
            Due.fill(x, 0, 0, 0, -1);
            x.trial(1, 0, 0);
            x.trial(1, 1, 0);
            due.is(11, "has one of 5, likes one " + trials[n], x.quarrels(0, 0, 0), want[n]);
            x.put(0, 0, -1);
            due.is(11, "has none", x.quarrels(0, 0, 0), trials[n] > 0 ? 2 : 1);
        }
    }

    /** QUARREL: "it is nobody's there, or that of a PLAYER of less RANK (of like RANK: of the greater number)". */
    private static void quarrelByRank() {
        for (int p = 0; p < 2; p++) {
            for (int rank = 3; rank <= 5; rank++) {
                LentFiddles x = new LentFiddles();
                x.violin(0, 0, 1);
                x.player(p == 0 ? rank : 4);
                x.player(p == 1 ? rank : 4);
                x.trial(0, 0, 1);
                x.trial(1, 0, 99);
                x.sheet(0, 0, 2);
                x.put(0, p, -1);
                x.put(0, 1 - p, 0);
                boolean want = rank > 4 || rank == 4 && p == 0;
                due.is(11, p + " of rank " + rank + " with another of 4", x.quarrels(0, 0, 0), want ? 1 : 0);
                due.is(12, "which", x.quarrel(0, 0, 0, 0), want ? 10 * p : Due.UNKNOWN);
                due.is(10, "the calm one", x.lent(p, 1), want ? 0 : Due.NONE);
                x.put(0, 1 - p, -1);
                due.is(11, "it is nobody's", x.quarrels(0, 0, 0), 2);
            }
        }
    }

    /** "A PLAYER likes a VIOLIN more by TRIAL, then by less number." */
    private static void likedMore() {
        int[] trials = {4, 5, 6};
        int[] want = {1, 0, 0};
        for (int n = 0; n < trials.length; n++) {
            LentFiddles x = ofTwo();
            x.trial(0, 0, trials[n]);
            due.is(10, "a trial of " + trials[n] + " and one of 5", x.lent(0, 1), want[n]);
            due.is(10, "what is left", x.lent(1, 1), 1 - want[n]);
        }
    }

    /** BEST LENDING: "of several the first as a row (none is behind all)". */
    private static void firstAsARow() {
        LentFiddles x = ofTwo();
        due.is(10, "the first row", x.lent(0, 0) * 10 + x.lent(1, 0), 1);
        x.trial(0, 0, 4);
        due.is(10, "a greater sum is ahead", x.lent(0, 0) * 10 + x.lent(1, 0), 10);
        x.trial(1, 1, 4);
        due.is(10, "still", x.lent(0, 0) * 10 + x.lent(1, 0), 10);
        x.trial(0, 1, 3);
        due.is(10, "like sums again", x.lent(0, 0) * 10 + x.lent(1, 0), 1);
        x.trial(0, 1, 0);
        x.trial(1, 1, 0);
        due.is(10, "the greater trial", x.lent(1, 0), 0);
        x.trial(0, 0, 5);
        due.is(10, "like trials: none is behind", x.lent(0, 0), 0);
        due.is(10, "like trials: none is behind", x.lent(1, 0), Due.NONE);
    }

    /** "Two LOANS of one VIOLIN, or of one PLAYER, do not share a day"; both FROM and TO are had. */
    private static void sharedDays() {
        for (int from = 7; from <= 23; from++) {
            for (int to = from; to <= 23; to++) {
                boolean shares = from <= 20 && to >= 10;
                LentFiddles x = ofTwo();
                x.lend(0, 0, 10, 20);
                due.is(13, "the violin from " + from + " to " + to, x.lend(1, 0, from, to), shares ? Due.STATE : 1);
                due.is(50, "loans", x.many(2), shares ? 1 : 2);
                LentFiddles y = ofTwo();
                y.lend(0, 0, 10, 20);
                due.is(13, "the player from " + from + " to " + to, y.lend(0, 1, from, to), shares ? Due.STATE : 1);
                LentFiddles z = ofTwo();
                z.lend(0, 0, 10, 20);
                due.is(13, "others from " + from + " to " + to, z.lend(1, 1, from, to), 1);
            }
        }
        LentFiddles x = ofTwo();
        x.lend(0, 0, 10, 20);
        for (int day = 8; day <= 22; day++) {
            int want = day >= 10 && day <= 20 ? 0 : Due.NONE;
            due.is(17, "the violin on " + day, x.on(0, 0, day), want);
            due.is(17, "the player on " + day, x.on(1, 0, day), want);
        }
    }

    /** BORN: "from the day behind the latest LOOK at it ahead (by day) of the first LOOK with it (0, if none)". */
    private static void bornFromTheLookAhead() {
        for (int ahead = 0; ahead < 20; ahead++) {
            LentFiddles x = ofTwo();
            x.look(0, 20, 0b11);
            due.is(19, "none ahead", x.born(0, 0, 0), 0);
            x.look(0, ahead, 0b10);
            due.is(19, "a look on " + ahead, x.born(0, 0, 0), ahead + 1);
            due.is(19, "a look on " + ahead, x.born(0, 0, 1), 20);
            due.is(19, "the one with it", x.born(0, 1, 0), 0);
            due.is(19, "the one with it", x.born(0, 1, 1), ahead);
            x.look(0, 21, 0);
            x.look(1, 19, 0);
            due.is(19, "looks behind, at others", x.born(0, 0, 0), ahead + 1);
        }
        LentFiddles y = ofTwo();
        y.look(0, 0, 1);
        due.is(19, "on day 0", y.born(0, 0, 0) + 10 * y.born(0, 0, 1), 0);
        y.look(0, 99999, 1);
        y.look(0, 100000, 1 << 15);
        due.is(19, "the last crack on the last day", y.born(0, 15, 0), 100000);
        due.is(19, "the last crack on the last day", y.born(0, 15, 1), 100000);
    }

    /** BLAME: "the one LOAN that has all these days; else NONE". */
    private static void blamedForAllDays() {
        for (int from = 4; from <= 8; from++) {
            for (int to = 8; to <= 12; to++) {
                LentFiddles x = ofTwo();
                x.lend(0, 0, from, to);
                x.look(0, 5, 0);
                x.look(0, 10, 1);
                boolean has = from <= 6 && to >= 10;
                due.is(20, "a loan from " + from + " to " + to, x.blame(0, 0), has ? 0 : Due.NONE);
                due.is(20, "another violin's", x.blame(1, 0), Due.NONE);
            }
        }
        LentFiddles y = ofTwo();
        y.lend(0, 1, 0, 100);
        y.lend(1, 0, 6, 10);
        y.look(0, 5, 0);
        y.look(0, 10, 1);
        due.is(20, "the loan's number", y.blame(0, 0), 1);
        y.back(1, 10);
        due.is(20, "back on the last day", y.blame(0, 0), 1);
        y.back(1, 9);
        due.is(20, "back a day ahead of it", y.blame(0, 0), Due.NONE);
    }

    /** WRONG: "a LOOK without a CRACK that a LOOK ahead of it (by day) has". */
    private static void wrongBehind() {
        for (int day = 0; day <= 4; day++) {
            if (day != 2) {
                LentFiddles x = ofTwo();
                x.look(0, 2, 1 << 15);
                x.look(0, day, 1);
                due.is(21, "on day " + day, x.wrongs(0), 1);
                LentFiddles y = ofTwo();
                y.look(0, 2, 1);
                y.look(0, day, 0);
                due.is(21, "on day " + day, y.wrongs(0), day > 2 ? 1 : 0);
                LentFiddles z = ofTwo();
                z.look(0, 2, 1);
                z.look(0, day, 1);
                due.is(21, "on day " + day, z.wrongs(0), 0);
            }
        }
    }

    private static long days(LentFiddles x, int day, int hands, int... wanted) {
        Due.fill(x, 0, 0, wanted);
        return x.days(day, hands, 0, 0, 0);
    }

    /** MOVES: "LOANS as they are on a day". */
    private static void loansOnTheDay() {
        LentFiddles x = ofTwo();
        x.lend(0, 0, 10, 20);
        for (int day = 8; day <= 22; day++) {
            boolean has = day >= 10 && day <= 20;
            due.is(22, "to keep it on " + day, days(x, day, 1, 0, -1), has ? 0 : 1);
            due.is(22, "to have none on " + day, days(x, day, 1, -1, -1), has ? 1 : 0);
        }
        x.back(0, 15);
        due.is(22, "still had", days(x, 15, 1, 0, -1), 0);
        due.is(22, "had no more", days(x, 16, 1, 0, -1), 1);
    }

    /** "A PLAYER gets on a later day than he hands in, and a VIOLIN is got on a later day than it was handed in." */
    private static void laterDays() {
        LentFiddles x = ofTwo();
        x.lend(0, 0, 10, 20);
        due.is(22, "he hands in and gets", days(x, 10, 9, 1, -1), 2);
        due.is(22, "he hands in, another gets it", days(x, 10, 9, -1, 0), 2);
        due.is(22, "he hands in, another gets another", days(x, 10, 9, -1, 1), 1);
        due.is(22, "one hand for that", days(x, 10, 1, -1, 1), 2);
        due.is(22, "both change", days(x, 10, 9, 1, 0), 2);
    }

    /** "On one day the house does at most as many MOVES as it has HANDS (1 .. 9)." */
    private static void handsOfADay() {
        for (int moves = 0; moves <= 10; moves++) {
            LentFiddles x = new LentFiddles();
            x.sheet(0, 0, 10);
            for (int n = 0; n < 10; n++) {
                x.violin(0, n, 1);
                x.player(0);
                x.put(0, n, n < moves ? 9 - n : -1);
            }
            for (int hands = 1; hands <= 9; hands++) {
                int want = 0;
                while (want * hands < moves) {
                    want++;
                }
                due.is(22, moves + " moves, " + hands + " hands", x.days(0, hands, 0, 0, 0), want);
            }
        }
    }

    /** HOLDERS: "they may share years: a QUARREL of two of unlike NAMES". */
    private static void sharedYears() {
        for (int from = 1596; from <= 1614; from++) {
            for (int length = 0; length <= 15; length += 3) {
                LentFiddles x = ofTwo();
                x.holder(0, 1, 1600, 1610);
                due.is(23, "it may share years", x.holder(0, 2, from, from + length), 1);
                boolean shares = from <= 1610 && from + length >= 1600;
                due.is(24, "from " + from + " for " + length, x.gaps(0, 1), shares ? 1 : 0);
                x.holder(0, 1, 1600, 1610);
                due.is(24, "like names do not", x.gaps(0, 1), shares ? 2 : 0);
            }
        }
    }

    /** GAPS: "runs of years between its first and last year that none of its HOLDERS has". */
    private static void gapsBetween() {
        for (int from = 1600; from <= 1614; from++) {
            LentFiddles x = ofTwo();
            x.holder(0, 1, 1600, 1610);
            x.holder(0, 1, from, 1620);
            due.is(24, "the next from " + from, x.gaps(0, 0), from > 1611 ? 1 : 0);
            due.is(25, "its first", x.gap(0, 0, 0), from > 1611 ? 1611 : Due.UNKNOWN);
            due.is(25, "its last", x.gap(0, 0, 1), from > 1611 ? from - 1 : Due.UNKNOWN);
        }
        LentFiddles x = ofTwo();
        x.holder(0, 1, 1500, 1500);
        x.holder(0, 1, 2100, 2100);
        due.is(24, "the greatest gap", x.gaps(0, 0), 1);
        due.is(25, "from", x.gap(0, 0, 0), 1501);
        due.is(25, "to", x.gap(0, 0, 1), 2099);
        due.is(26, "its first year", x.claim(0, 7, 1501), 1);
        due.is(26, "its last year", x.claim(0, 7, 2099), 1);
        due.is(26, "behind it", x.claim(0, 7, 2100), 0);
        due.is(26, "ahead of it", x.claim(0, 7, 1500), 0);
    }

    /** A CLAIM STANDS: NAME has the year, none has that behind TO, the next has another NAME. */
    private static void claimStands() {
        for (int next = 1605; next <= 1614; next++) {
            LentFiddles x = ofTwo();
            x.holder(0, 1, 1600, 1610);
            x.holder(0, 2, next, 1620);
            boolean free = next > 1611;
            for (int year = 1599; year <= 1611; year++) {
                boolean has = year >= 1600 && year <= 1610;
                int other = year >= next ? 1 : 0;
                int want = has ? free ? 2 : other : year > 1610 && free ? 1 : 0;
                due.is(26, "next from " + next + ", year " + year, x.claim(0, 1, year), want);
            }
        }
        LentFiddles y = ofTwo();
        y.holder(0, 1, 1600, 1610);
        y.holder(0, 2, 1605, 1606);
        due.is(26, "the next is above the year", y.claim(0, 1, 1604), 2);
        due.is(26, "from the year on is not above it", y.claim(0, 1, 1605), 1);
        due.is(26, "nor is one behind it", y.claim(0, 1, 1607), 0);
        y.holder(0, 1, 1605, 1605);
        due.is(26, "of several the least number", y.claim(0, 1, 1604), 2);
        y.holder(0, 1, 1604, 1604);
        due.is(26, "the least FROM", y.claim(0, 1, 1603), 0);
        y.holder(0, 9, 1611, 1611);
        due.is(26, "one has the year behind", y.claim(0, 1, 1602), 0);
        LentFiddles z = ofTwo();
        z.holder(0, 1, 2000, 2100);
        z.holder(0, 2, 2100, 2100);
        due.is(26, "there is no year behind the last one", z.claim(0, 1, 2099), 2);
        due.is(26, "none is above the last year", z.claim(0, 1, 2100), 1);
    }

    /** A CLAIM is OPEN: a GAP has the year, or HOLDERS of that NAME and of another one both have it. */
    private static void claimOpen() {
        LentFiddles x = ofTwo();
        x.holder(0, 1, 1600, 1610);
        x.holder(0, 1, 1610, 1620);
        due.is(26, "two of that name", x.claim(0, 1, 1610), 0);
        x.holder(0, 2, 1610, 1610);
        due.is(26, "another one too", x.claim(0, 1, 1610), 1);
        due.is(26, "the year ahead", x.claim(0, 1, 1609), 0);
        due.is(26, "the year behind", x.claim(0, 1, 1611), 0);
        due.is(26, "one who has it not", x.claim(0, 3, 1610), 0);
        x.holder(1, 2, 1620, 1620);
        due.is(26, "another violin's", x.claim(0, 1, 1620), 0);
    }

    /** SPREAD: "of several the first as a row by TRIPS". */
    private static void firstWayOfPlanes() {
        LentFiddles x = new LentFiddles();
        for (int n = 0; n < 3; n++) {
            x.violin(0, 0, n == 2 ? 2 : 1);
        }
        x.trip(2, 0, -1);
        x.trip(1, 0, -1);
        x.trip(0, 0, -1);
        due.is(29, "two and two", x.spread(0), 2);
        due.is(30, "the first in plane 0", x.plane(0), 0);
        due.is(30, "the second", x.plane(1), 1);
        due.is(30, "the third", x.plane(2), 1);
        x.fix(0, 1);
        due.is(29, "two and two", x.spread(0), 2);
        due.is(30, "as told", x.plane(0), 1);
        due.is(30, "the second", x.plane(1), 0);
        x.fix(2, 1);
        due.is(29, "three and one", x.spread(0), 3);
        due.is(30, "the free one", x.plane(1), 0);
        x.fix(1, 1);
        due.is(29, "all in one", x.spread(0), 4);
        x.fix(1, -1);
        due.is(30, "free again", x.plane(1), 0);
    }

    private static void isDamp(int longest, int worst, int... hours) {
        LentFiddles x = new LentFiddles();
        Due.fill(x, 0, 0, hours);
        due.is(33, "the longest", x.damp(0, 0, 0, hours.length, 40, 60, 0), longest);
        due.is(33, "worst", x.damp(0, 0, 0, hours.length, 40, 60, 1), worst);
    }

    /** "FAIR is from a to b." */
    private static void fairFromTo() {
        isDamp(1, 1, 39);
        isDamp(0, 0, 40);
        isDamp(0, 0, 60);
        isDamp(1, 1, 61);
        isDamp(1, 0, -1);
        isDamp(1, 1, 0);
        isDamp(1, 1, 100);
    }

    /** "The longest run of hours that are not FAIR or missing; of runs that hold at least one hour told not FAIR." */
    private static void runsOfHours() {
        isDamp(3, 3, -1, -1, 39);
        isDamp(3, 3, 39, -1, -1);
        isDamp(3, 3, -1, 39, -1);
        isDamp(2, 0, -1, -1, 50);
        isDamp(2, 1, -1, -1, 50, 39);
        isDamp(2, 1, 39, 50, -1, -1);
        isDamp(2, 2, 39, 50, -1, 39);
        isDamp(2, 2, -1, 39, 50, 39);
        isDamp(0, 0, 50, 50);
        isDamp(0, 0);
    }

    private static void ring(LentFiddles x, int v, int... widths) {
        Due.fill(x, 0, 1, widths);
        due.is(34, "rings", x.rings(v, 0, 1, 0, widths.length), widths.length);
    }

    private static void grow(LentFiddles x, int start, int... widths) {
        Due.fill(x, 0, 1, widths);
        due.is(35, "oak", x.oak(0, 1, 0, widths.length, start), widths.length);
    }

    /** "They AGREE, if both widths rise, or both fall, or both stay." */
    private static void risesFallsStays() {
        int[][] steps = {{1, 2}, {254, 255}, {1, 255}, {2, 1}, {255, 254}, {255, 1}, {1, 1}, {255, 255}};
        for (int[] one : steps) {
            for (int[] other : steps) {
                LentFiddles x = ofTwo();
                ring(x, 0, one);
                grow(x, 0, other);
                boolean agree = Integer.compare(one[0], one[1]) == Integer.compare(other[0], other[1]);
                due.is(36, "one step", x.laid(0, 0, 0), agree ? 1 : -1);
                due.is(36, "one step", x.laid(0, 0, 1), 1);
            }
        }
    }

    /** BEST: "the greatest MATCH with 5 STEPS at least; of several the least k". */
    private static void fiveSteps() {
        for (int length = 1; length <= 8; length++) {
            LentFiddles x = ofTwo();
            int[] widths = new int[length];
            java.util.Arrays.fill(widths, 9);
            ring(x, 0, widths);
            grow(x, 0, 7, 7, 7, 7, 7, 7);
            due.is(37, length + " rings in six", x.best(0, 1), length < 6 ? Due.LOST : 5);
            due.is(37, length + " rings in six, k", x.best(0, 0), length < 6 ? Due.LOST : 6 - length);
            ring(x, 0, 9, 9, 9, 9, 9, 9);
            grow(x, 0, widths);
            due.is(37, "six rings in " + length, x.best(0, 1), length < 6 ? Due.LOST : 5);
            due.is(37, "six rings in " + length + ", k", x.best(0, 0), length < 6 ? Due.LOST : 0);
        }
        LentFiddles x = ofTwo();
        ring(x, 0, 1, 2, 3, 4, 5, 6);
        grow(x, 0, 6, 5, 4, 3, 2, 1);
        due.is(37, "five steps that do not agree", x.best(0, 1), -5);
    }

    /** ONE TREE: "laid against one another in any way with 5 STEPS at least, all AGREE". */
    private static void fiveStepsOfOneTree() {
        int[] wood = {1, 2, 1, 2, 2, 1, 1, 2, 3, 4};
        for (int shared = 0; shared <= 10; shared++) {
            LentFiddles x = ofTwo();
            ring(x, 0, wood);
            ring(x, 1, java.util.Arrays.copyOf(wood, shared));
            due.is(38, shared + " rings of the same", x.oneTree(0, 1), shared >= 6 ? 1 : 0);
            due.is(38, shared + " rings, the other way", x.oneTree(1, 0), shared >= 6 ? 1 : 0);
            ring(x, 1, java.util.Arrays.copyOfRange(wood, 10 - shared, 10));
            due.is(38, "the last " + shared, x.oneTree(0, 1), shared >= 6 ? 1 : 0);
        }
        LentFiddles y = ofTwo();
        ring(y, 0, 1, 2, 1, 2, 2, 1, 1);
        ring(y, 1, 1, 2, 1, 2, 2, 1, 2);
        due.is(38, "five agree, a sixth does not", y.oneTree(0, 1), 0);
        ring(y, 1, 1, 2, 1, 2, 2, 1);
        due.is(38, "five agree, there is no sixth", y.oneTree(0, 1), 1);
    }

    /** "Its YEAR: that of its last ring", also where that lies beyond THE OAK. */
    private static void lastRingsYear() {
        LentFiddles x = ofTwo();
        ring(x, 0, 8, 9, 1, 2, 1, 2, 2, 1);
        grow(x, 0, 1, 2, 1, 2, 2, 1);
        due.is(37, "k below 0", x.best(0, 0), -2);
        due.is(37, "the oak's last year", x.best(0, 2), 5);
        ring(x, 0, 1, 2, 1, 2, 2, 1, 1, 1);
        grow(x, 2100, 1, 2, 1, 2, 2, 1);
        due.is(37, "beyond the oak", x.best(0, 2), 2107);
        grow(x, 2100, 5, 5, 1, 2, 1, 2, 2, 1);
        due.is(37, "beyond the oak", x.best(0, 0), 2);
        due.is(37, "beyond the oak", x.best(0, 2), 2109);
    }

    private static void isBroken(int want, int number, String letter, LentFiddles x) {
        String text = letter + number;
        Due.write(x, 3, text);
        x.contract(3, 0, 0, text.length());
        due.is(16, "breaks " + text, x.loan(0, 5), want);
    }

    /** Clauses: broken from the first number on that is beyond what the LOAN has. */
    private static void clausesAtTheirNumbers() {
        LentFiddles x = ofTwo();
        x.lend(0, 0, 10, 19);
        isBroken(8, 9, "Y", x);
        isBroken(0, 10, "Y", x);
        isBroken(0, 11, "Y", x);
        isBroken(0, 4, "H", x);
        isBroken(0, 5, "H", x);
        isBroken(4, 6, "H", x);
        isBroken(2, 0, "B", x);
        x.warn(0, 12);
        isBroken(0, 6, "B", x);
        isBroken(0, 7, "B", x);
        isBroken(2, 8, "B", x);
        x.warn(0, 19);
        isBroken(0, 0, "B", x);
        x.warn(0, 20);
        isBroken(2, 0, "B", x);
        int[] days = {9, 10, 19, 20};
        int[] want = {0, 1, 2, 2};
        for (int n = 0; n < days.length; n++) {
            x.trip(0, days[n], 0);
            x.trip(1, days[n], 0);
            isBroken(0, want[n], "A", x);
            isBroken(want[n] > 0 ? 1 : 0, Math.max(0, want[n] - 1), "A", x);
        }
    }

    /** "TRACE (an int that wraps, 0 at first, becomes 31 times it and the number)": it wraps at the seventh body. */
    private static void traceWraps() {
        LentFiddles x = ofTwo();
        long exact = 0;
        for (int n = 1; n <= 20; n++) {
            x.praise(n % 2);
            exact = 31 * exact + 4;
            if (n <= 6) {
                due.is(48, "as it is", x.trace(), exact);
            }
            exact = (int) exact;
            due.is(48, "cut", x.trace(), exact);
        }
    }
}
