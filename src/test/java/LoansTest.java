/** Promises 13 to 22: loans, looks, moves. */
public final class LoansTest {
    private static final Due due = new Due();

    public static void main(String[] args) {
        lend();
        lendFull();
        back();
        warn();
        loan();
        brokenClauses();
        on();
        look();
        lookFull();
        bornAndBlame();
        bornOfUnseen();
        wrongs();
        daysByHand();
        daysOfChains();
        daysRefused();
        due.end();
    }

    /** Ten violins of as many makers and ten players, each with a trial on each. */
    private static LentFiddles full() {
        LentFiddles x = new LentFiddles();
        for (int n = 0; n < 10; n++) {
            x.violin(0, n, 1);
            x.player(n);
        }
        for (int p = 0; p < 10; p++) {
            for (int v = 0; v < 10; v++) {
                x.trial(p, v, 1);
            }
        }
        return x;
    }

    private static LentFiddles ofTwo() {
        LentFiddles x = new LentFiddles();
        for (int n = 0; n < 2; n++) {
            x.violin(0, n, 1);
            x.player(n);
        }
        for (int n = 0; n < 4; n++) {
            x.trial(n / 2, n % 2, 1);
        }
        return x;
    }

    private static void lend() {
        LentFiddles x = ofTwo();
        due.is(13, "no player", x.lend(2, 0, -1, 0), Due.UNKNOWN);
        due.is(13, "no violin", x.lend(0, -1, 0, 0), Due.UNKNOWN);
        due.is(13, "from below", x.lend(0, 0, -1, 0), Due.OUTSIDE);
        due.is(13, "to above", x.lend(0, 0, 0, 100001), Due.OUTSIDE);
        due.is(13, "from above to", x.lend(0, 0, 5, 4), Due.OUTSIDE);
        due.is(13, "both above", x.lend(0, 0, 100001, 100001), Due.OUTSIDE);
        due.is(13, "a loan", x.lend(0, 0, 10, 20), 0);
        due.is(13, "it was had now", x.lend(0, 0, 30, 40), Due.STATE);
        due.is(13, "shares the player's last day", x.lend(0, 1, 20, 30), Due.STATE);
        due.is(13, "shares the player's first day", x.lend(0, 1, 0, 10), Due.STATE);
        due.is(13, "lies in the player's days", x.lend(0, 1, 12, 13), Due.STATE);
        due.is(13, "lies around the player's days", x.lend(0, 1, 0, 100), Due.STATE);
        due.is(13, "shares the violin's day", x.lend(1, 0, 20, 20), Due.STATE);
        due.is(13, "the day ahead", x.lend(1, 0, 0, 9), 1);
        due.is(13, "the day behind", x.lend(0, 1, 21, 100000), 2);
        due.is(13, "others on like days", x.lend(1, 1, 10, 20), 3);
        x.trial(1, 0, 0);
        due.is(13, "he may not", x.lend(1, 0, 50, 60), Due.STATE);
        due.is(13, "how many", x.many(2), 4);
    }

    private static void lendFull() {
        LentFiddles x = full();
        for (int l = 0; l < 40; l++) {
            due.is(13, "loan", x.lend(l % 10, (l + l / 10) % 10, l, l), l);
        }
        due.is(13, "the 41st", x.lend(0, 7, 1000, 1000), Due.FULL);
        due.is(13, "state ahead of full", x.lend(0, 0, 1000, 1000), Due.STATE);
        due.is(13, "a full one changes nothing", x.may(0, 7), 1);
        due.is(13, "forty", x.many(2), 40);
        due.is(17, "the last of forty", x.on(1, 9, 39), 39);
        due.is(17, "none of forty", x.on(0, 9, 1000), Due.NONE);
        isDays(x, 39, new int[] {-1, -1, -1, -1, -1, -1, -1, -1, -1, -1}, 1, 1);
        isDays(x, 40, new int[] {9, 8, 7, 6, 5, 4, 3, 2, 1, 0}, 10, 5, 4, 3, 2, 2, 2, 2, 2);
    }

    private static void back() {
        LentFiddles x = ofTwo();
        x.lend(0, 0, 10, 20);
        due.is(14, "no loan", x.back(1, 15), Due.UNKNOWN);
        due.is(14, "no loan", x.back(-1, 15), Due.UNKNOWN);
        due.is(14, "below from", x.back(0, 9), Due.OUTSIDE);
        due.is(14, "above to", x.back(0, 21), Due.OUTSIDE);
        due.is(14, "to itself", x.back(0, 20), 20);
        due.is(14, "earlier", x.back(0, 15), 20);
        due.is(14, "not later again", x.back(0, 16), Due.OUTSIDE);
        due.is(14, "it is free behind", x.on(0, 0, 16), Due.NONE);
        due.is(14, "another may have it", x.lend(1, 0, 16, 20), 1);
        due.is(14, "to its from", x.back(0, 10), 15);
        due.is(14, "it was had all the same", x.may(0, 0), 0);
    }

    private static void warn() {
        LentFiddles x = ofTwo();
        x.lend(0, 0, 10, 20);
        due.is(15, "no loan", x.warn(1, -1), Due.UNKNOWN);
        due.is(15, "no loan", x.warn(-1, 1), Due.UNKNOWN);
        due.is(15, "below", x.warn(0, -1), Due.OUTSIDE);
        due.is(15, "above", x.warn(0, 100001), Due.OUTSIDE);
        due.is(15, "none", x.loan(0, 4), Due.NONE);
        due.is(15, "given", x.warn(0, 0), 1);
        due.is(15, "which", x.loan(0, 4), 0);
        due.is(15, "in place of it", x.warn(0, 100000), 1);
        due.is(15, "which", x.loan(0, 4), 100000);
    }

    private static void loan() {
        LentFiddles x = ofTwo();
        x.lend(1, 0, 10, 20);
        int[] want = {1, 0, 10, 20, Due.NONE, 0, Due.OUTSIDE};
        for (int what = 0; what < want.length; what++) {
            due.is(16, "loan(0, " + what + ")", x.loan(0, what), want[what]);
        }
        due.is(16, "outside", x.loan(0, -1), Due.OUTSIDE);
        due.is(16, "unknown", x.loan(1, -1), Due.UNKNOWN);
        due.is(16, "unknown", x.loan(-1, 0), Due.UNKNOWN);
    }

    private static void read(LentFiddles x, String text) {
        Due.write(x, 3, text);
        x.contract(3, 0, 0, text.length());
    }

    private static void isBroken(LentFiddles x, String text, int want) {
        read(x, text);
        due.is(16, "breaks " + text, x.loan(0, 5), want);
    }

    private static void brokenClauses() {
        LentFiddles x = new LentFiddles();
        x.violin(0, 0, 1);
        x.violin(0, 1, 1);
        x.player(50);
        x.trial(0, 0, 1);
        x.lend(0, 0, 100, 109);
        isBroken(x, "", 0);
        isBroken(x, "Y10", 0);
        isBroken(x, "Y9", 8);
        isBroken(x, "Y0", 8);
        isBroken(x, "H50", 0);
        isBroken(x, "H51", 4);
        isBroken(x, "A0", 0);
        int[][] trips = {{0, 99}, {0, 100}, {0, 109}, {0, 110}, {1, 105}};
        for (int[] t : trips) {
            x.trip(t[0], t[1], 0);
        }
        isBroken(x, "A2", 0);
        isBroken(x, "A1", 1);
        isBroken(x, "A0", 1);
        isBroken(x, "B0", 2);
        x.warn(0, 99);
        isBroken(x, "B10", 0);
        isBroken(x, "B11", 2);
        x.warn(0, 109);
        isBroken(x, "B0", 0);
        isBroken(x, "B1", 2);
        x.warn(0, 110);
        isBroken(x, "B0", 2);
        isBroken(x, "A1;B0;H999;Y9", 15);
        isBroken(x, "Y9;H50;A1", 9);
        x.back(0, 108);
        isBroken(x, "A1;Y9", 0);
        isBroken(x, "", 0);
    }

    private static void on() {
        LentFiddles x = ofTwo();
        x.lend(0, 1, 10, 20);
        x.lend(1, 1, 21, 30);
        int[] days = {9, 10, 20, 21, 30, 31};
        int[] wantViolin = {Due.NONE, 0, 0, 1, 1, Due.NONE};
        int[] wantPlayer = {Due.NONE, 0, 0, Due.NONE, Due.NONE, Due.NONE};
        for (int d = 0; d < days.length; d++) {
            due.is(17, "violin on " + days[d], x.on(0, 1, days[d]), wantViolin[d]);
            due.is(17, "player on " + days[d], x.on(1, 0, days[d]), wantPlayer[d]);
            due.is(17, "another violin", x.on(0, 0, days[d]), Due.NONE);
        }
        due.is(17, "who ahead", x.on(2, 9, -1), Due.OUTSIDE);
        due.is(17, "who", x.on(-1, 0, 0), Due.OUTSIDE);
        due.is(17, "no violin ahead of day", x.on(0, 2, -1), Due.UNKNOWN);
        due.is(17, "no player", x.on(1, 2, 0), Due.UNKNOWN);
        due.is(17, "below", x.on(1, -1, 0), Due.UNKNOWN);
        due.is(17, "day", x.on(0, 0, 100001), Due.OUTSIDE);
        due.is(17, "day", x.on(1, 0, -1), Due.OUTSIDE);
        due.is(17, "the last day", x.on(0, 0, 100000), Due.NONE);
        x.player(3);
        due.is(17, "a player's number, no violin's", x.on(1, 2, 0), Due.NONE);
        due.is(17, "a player's number, no violin's", x.on(0, 2, 0), Due.UNKNOWN);
    }

    private static void look() {
        LentFiddles x = ofTwo();
        due.is(18, "no violin", x.look(2, -1, 0), Due.UNKNOWN);
        due.is(18, "no violin", x.look(-1, 0, 0), Due.UNKNOWN);
        due.is(18, "day", x.look(0, -1, 0), Due.OUTSIDE);
        due.is(18, "day", x.look(0, 100001, 0), Due.OUTSIDE);
        due.is(18, "cracks", x.look(0, 0, -1), Due.OUTSIDE);
        due.is(18, "cracks", x.look(0, 0, 65536), Due.OUTSIDE);
        due.is(18, "a look", x.look(0, 0, 65535), 0);
        due.is(18, "the same day", x.look(0, 0, 0), Due.STATE);
        due.is(18, "another violin", x.look(1, 0, 0), 1);
        due.is(18, "another day", x.look(0, 100000, 0), 2);
        due.is(18, "how many", x.many(3), 3);
    }

    private static void lookFull() {
        LentFiddles x = ofTwo();
        for (int l = 0; l < 40; l++) {
            due.is(18, "look", x.look(l % 2, l, 0), l);
        }
        due.is(18, "the 41st", x.look(0, 99, 0), Due.FULL);
        due.is(18, "state ahead of full", x.look(0, 0, 0), Due.STATE);
        due.is(18, "forty", x.many(3), 40);
        due.is(19, "of forty", x.born(0, 0, 0), Due.NONE);
        due.is(20, "of forty", x.blame(1, 0), Due.NONE);
        due.is(21, "of forty", x.wrongs(1), 0);
        LentFiddles y = ofTwo();
        for (int l = 39; l >= 0; l--) {
            y.look(0, l, l == 0 ? 1 : 2);
        }
        due.is(19, "of forty", y.born(0, 1, 0), 1);
        due.is(21, "of forty", y.wrongs(0), 39);
    }

    private static void bornAndBlame() {
        LentFiddles x = ofTwo();
        x.lend(0, 0, 0, 10);
        x.lend(1, 0, 11, 30);
        x.look(0, 20, 0b101);
        x.look(0, 10, 0b001);
        x.look(1, 15, 0b111);
        x.look(0, 30, 0b110);
        isBorn(x, 0, 0, 10, 0);
        isBorn(x, 2, 11, 20, 1);
        isBorn(x, 1, 21, 30, 1);
        x.look(0, 5, 0);
        isBorn(x, 0, 6, 10, 0);
        x.look(0, 9, 0b100);
        isBorn(x, 2, 6, 9, 0);
        isBorn(x, 0, 10, 10, 0);
        x.back(0, 8);
        isBorn(x, 2, 6, 9, Due.NONE);
        isBorn(x, 0, 10, 10, Due.NONE);
        x.back(1, 29);
        isBorn(x, 1, 21, 30, Due.NONE);
    }

    private static void isBorn(LentFiddles x, int crack, int first, int last, int blamed) {
        due.is(19, "born(0, " + crack + ", 0)", x.born(0, crack, 0), first);
        due.is(19, "born(0, " + crack + ", 1)", x.born(0, crack, 1), last);
        due.is(20, "blame(0, " + crack + ")", x.blame(0, crack), blamed);
    }

    private static void bornOfUnseen() {
        LentFiddles x = ofTwo();
        x.lend(0, 0, 0, 100000);
        x.look(0, 7, 1 << 15);
        isBorn(x, 15, 0, 7, 0);
        isBorn(x, 14, Due.NONE, Due.NONE, Due.NONE);
        due.is(19, "outside ahead of none", x.born(0, 14, 2), Due.OUTSIDE);
        due.is(19, "outside", x.born(0, 15, -1), Due.OUTSIDE);
        due.is(19, "no crack", x.born(0, 16, 2), Due.UNKNOWN);
        due.is(19, "no crack", x.born(0, -1, 0), Due.UNKNOWN);
        due.is(19, "no crack, a shift that wraps", x.born(0, 47, 0), Due.UNKNOWN);
        due.is(19, "no violin", x.born(2, 0, 0), Due.UNKNOWN);
        due.is(20, "no violin", x.blame(2, 0), Due.UNKNOWN);
        due.is(20, "no violin", x.blame(-1, 0), Due.UNKNOWN);
        due.is(20, "no crack", x.blame(0, 16), Due.UNKNOWN);
        due.is(20, "no crack", x.blame(0, -1), Due.UNKNOWN);
        LentFiddles y = ofTwo();
        y.lend(0, 0, 5, 9);
        y.look(0, 4, 0);
        y.look(0, 9, 1);
        isBorn(y, 0, 5, 9, 0);
        LentFiddles z = ofTwo();
        z.lend(0, 0, 5, 7);
        z.lend(1, 0, 8, 9);
        z.look(0, 4, 0);
        z.look(0, 9, 1);
        isBorn(z, 0, 5, 9, Due.NONE);
    }

    private static void wrongs() {
        LentFiddles x = ofTwo();
        due.is(21, "none", x.wrongs(0), 0);
        x.look(0, 30, 0b001);
        x.look(0, 20, 0b011);
        due.is(21, "one less than ahead of it", x.wrongs(0), 1);
        x.look(0, 10, 0b100);
        due.is(21, "both", x.wrongs(0), 2);
        x.look(1, 5, 0b11111);
        due.is(21, "of that violin alone", x.wrongs(0), 2);
        x.look(0, 40, 0b111);
        due.is(21, "with all", x.wrongs(0), 2);
        x.look(0, 50, 0b1111);
        due.is(21, "with more", x.wrongs(0), 2);
        x.look(0, 60, 0);
        due.is(21, "with none", x.wrongs(0), 3);
        due.is(21, "the other", x.wrongs(1), 0);
        due.is(21, "no violin", x.wrongs(2), Due.UNKNOWN);
        due.is(21, "no violin", x.wrongs(-1), Due.UNKNOWN);
    }

    private static void isDays(LentFiddles x, int day, int[] wanted, int... wantByHands) {
        Due.fill(x, 0, 0, wanted);
        for (int hands = 1; hands <= wantByHands.length; hands++) {
            due.is(22, "days with " + hands + " hands", x.days(day, hands, 0, 0, 0), wantByHands[hands - 1]);
            due.is(49, "no fault", x.fault(), 0);
        }
    }

    private static void daysByHand() {
        LentFiddles x = ofTwo();
        isDays(x, 0, new int[] {-1, -1}, 0, 0);
        isDays(x, 0, new int[] {1, 0}, 2, 1, 1);
        x.lend(0, 0, 10, 20);
        isDays(x, 10, new int[] {0, -1}, 0, 0);
        isDays(x, 20, new int[] {-1, -1}, 1, 1);
        isDays(x, 21, new int[] {0, -1}, 1, 1);
        isDays(x, 15, new int[] {1, -1}, 2, 2, 2);
        isDays(x, 15, new int[] {-1, 0}, 2, 2, 2);
        isDays(x, 15, new int[] {-1, 1}, 2, 1, 1);
        isDays(x, 15, new int[] {1, 0}, 3, 2, 2);
        x.lend(1, 1, 15, 15);
        isDays(x, 15, new int[] {1, 0}, 4, 2, 2);
        x.trial(0, 0, 0);
        isDays(x, 21, new int[] {0, 1}, 2, 1);
    }

    /** A chain that ends in the house is handed in first, so that others get theirs on the last day of handing in. */
    private static void daysOfChains() {
        LentFiddles x = full();
        for (int p = 0; p < 6; p++) {
            x.lend(p, p, 0, 0);
        }
        isDays(x, 0, new int[] {1, 2, 0, 4, 3, 6, -1, -1, -1, -1}, 12, 6, 4, 3, 3, 2, 2, 2, 2);
        isDays(x, 0, new int[] {1, 2, 0, 4, 3, -1, -1, -1, -1, -1}, 11, 6, 4, 3, 3, 2, 2, 2, 2);
        isDays(x, 0, new int[] {1, 2, 3, 4, 5, 0, -1, -1, -1, -1}, 12, 6, 4, 3, 3, 2, 2, 2, 2);
        isDays(x, 0, new int[] {1, 0, 3, 2, 5, 4, -1, -1, -1, -1}, 12, 6, 4, 3, 3, 2, 2, 2, 2);
        isDays(x, 0, new int[] {-1, -1, -1, -1, -1, -1, 6, 7, 8, 9}, 10, 5, 4, 3, 2, 2, 2, 2, 2);
    }

    private static void daysRefused() {
        LentFiddles x = ofTwo();
        isRefused(x, 0, 1, 4, 0, 0, Due.UNKNOWN);
        isRefused(x, -1, 0, -1, 5, 0, Due.UNKNOWN);
        isRefused(x, 0, 1, 0, 3, 0, Due.OUTSIDE);
        isRefused(x, -1, 1, 0, 0, 0, Due.OUTSIDE);
        isRefused(x, 100001, 1, 0, 0, 0, Due.OUTSIDE);
        isRefused(x, 0, 0, 0, 0, 0, Due.OUTSIDE);
        isRefused(x, 0, 10, 0, 0, 0, Due.OUTSIDE);
        isRefused(x, 0, 1, 0, 0, 0, Due.NULL);
        Due.fill(x, 0, 0, -1, 0);
        isRefused(x, 0, 1, 0, 1, 9, Due.CAST);
        isRefused(x, 0, 1, 0, 0, 1, Due.INDEX);
        isRefused(x, 0, 1, 0, 0, -1, Due.INDEX);
        isRefused(x, 0, 10, 0, 1, 9, Due.OUTSIDE);
        due.is(22, "the last day, the most hands", x.days(100000, 9, 0, 0, 0), 1);
        LentFiddles y = full();
        Due.fill(y, 0, 0, 0, 1, 0, -1, -1, -1, -1, -1, -1, -1);
        due.is(22, "a violin for two, with one between", y.days(0, 1, 0, 0, 0), Due.OUTSIDE);
        Due.fill(y, 0, 0, 0, 1, 2, -1, -1, -1, -1, -1, -1, 10);
        due.is(22, "no violin", y.days(0, 1, 0, 0, 0), Due.OUTSIDE);
        int[][] rows = {{-2, 0}, {2, 0}, {0, 0}, {1, 1}, {0, Due.MOST}};
        for (int[] row : rows) {
            Due.fill(x, 0, 2, row);
            isRefused(x, 0, 1, 0, 2, 0, Due.OUTSIDE);
        }
    }

    private static void isRefused(LentFiddles x, int day, int hands, int sheet, int lane, int i, int want) {
        due.is(22, "days refused", x.days(day, hands, sheet, lane, i), want);
        due.is(49, "its fault", x.fault(), want <= -11 ? -10 - want : 0);
    }
}
