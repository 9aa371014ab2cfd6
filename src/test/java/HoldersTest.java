/** Promises 23 to 26: holders, gaps, claims. */
public final class HoldersTest {
    private static final Due due = new Due();

    public static void main(String[] args) {
        holder();
        gaps();
        gapsOfMany();
        quarrels();
        claimStands();
        claimIsOpen();
        claimAtTheEnds();
        claimRefused();
        due.end();
    }

    private static LentFiddles ofTwo() {
        LentFiddles x = new LentFiddles();
        x.violin(0, 0, 1);
        x.violin(0, 0, 1);
        return x;
    }

    private static void holder() {
        LentFiddles x = ofTwo();
        due.is(23, "no violin", x.holder(2, -1, 0, 0), Due.UNKNOWN);
        due.is(23, "no violin", x.holder(-1, 0, 1500, 1500), Due.UNKNOWN);
        int[][] outside = {{-1, 1600, 1700}, {100, 1600, 1700}, {0, 1499, 1700}, {0, 1600, 2101}, {0, 1700, 1699},
            {0, 2101, 2101}, {0, 1400, 1450}, {0, Due.LEAST, Due.MOST}};
        for (int[] o : outside) {
            due.is(23, "outside", x.holder(0, o[0], o[1], o[2]), Due.OUTSIDE);
        }
        due.is(23, "none came of those", x.many(4), 0);
        for (int h = 0; h < 40; h++) {
            due.is(23, "holder", x.holder(h % 2, h == 0 ? 99 : 0, 1500, h == 39 ? 2100 : 1500), h);
        }
        due.is(23, "the 41st", x.holder(0, 0, 1500, 1500), Due.FULL);
        due.is(23, "outside ahead of full", x.holder(0, 0, 1500, 1499), Due.OUTSIDE);
        due.is(23, "how many", x.many(4), 40);
        due.is(23, "of one", x.ofViolin(1, 6), 20);
    }

    private static void isGaps(LentFiddles x, int v, int... ends) {
        due.is(24, "gaps", x.gaps(v, 0), ends.length / 2);
        for (int i = 0; i < ends.length; i++) {
            due.is(25, "gap " + i / 2 + " end " + i % 2, x.gap(v, i / 2, i % 2), ends[i]);
        }
        due.is(25, "below the first gap", x.gap(v, -1, 0), Due.UNKNOWN);
        due.is(25, "behind the last gap", x.gap(v, ends.length / 2, 1), Due.UNKNOWN);
        due.is(25, "far behind", x.gap(v, Due.MOST, 0), Due.UNKNOWN);
        due.is(25, "far below", x.gap(v, Due.LEAST, 0), Due.UNKNOWN);
    }

    private static void gaps() {
        LentFiddles x = ofTwo();
        isGaps(x, 0);
        x.holder(0, 1, 1800, 1810);
        isGaps(x, 0);
        x.holder(0, 2, 1820, 1820);
        isGaps(x, 0, 1811, 1819);
        x.holder(0, 3, 1500, 1500);
        isGaps(x, 0, 1501, 1799, 1811, 1819);
        x.holder(0, 3, 2100, 2100);
        isGaps(x, 0, 1501, 1799, 1811, 1819, 1821, 2099);
        x.holder(0, 3, 1502, 1798);
        isGaps(x, 0, 1501, 1501, 1799, 1799, 1811, 1819, 1821, 2099);
        x.holder(0, 3, 1811, 1819);
        isGaps(x, 0, 1501, 1501, 1799, 1799, 1821, 2099);
        x.holder(1, 3, 1501, 1501);
        isGaps(x, 0, 1501, 1501, 1799, 1799, 1821, 2099);
        isGaps(x, 1);
        due.is(24, "outside", x.gaps(0, 2), Due.OUTSIDE);
        due.is(24, "outside", x.gaps(0, -1), Due.OUTSIDE);
        due.is(24, "no violin", x.gaps(2, 2), Due.UNKNOWN);
        due.is(24, "no violin", x.gaps(-1, 0), Due.UNKNOWN);
        due.is(25, "outside", x.gap(0, 0, 2), Due.OUTSIDE);
        due.is(25, "outside", x.gap(0, 0, -1), Due.OUTSIDE);
        due.is(25, "unknown ahead of outside", x.gap(0, 3, 2), Due.UNKNOWN);
        due.is(25, "no violin", x.gap(2, 0, 0), Due.UNKNOWN);
        due.is(25, "no violin", x.gap(-1, 0, 2), Due.UNKNOWN);
    }

    private static void gapsOfMany() {
        LentFiddles x = ofTwo();
        for (int h = 39; h >= 0; h--) {
            x.holder(0, h, 1500 + 10 * h, 1500 + 10 * h + h % 3);
        }
        due.is(24, "many gaps", x.gaps(0, 0), 39);
        due.is(25, "the first of the last", x.gap(0, 38, 0), 1500 + 380 + 2 + 1);
        due.is(25, "the last of the last", x.gap(0, 38, 1), 1889);
        due.is(24, "of forty", x.gaps(0, 1), 0);
        due.is(26, "of forty, the last", x.claim(0, 39, 1890), 0);
        due.is(26, "of forty, a gap", x.claim(0, 39, 1889), 1);
        due.is(26, "of forty, the first", x.claim(0, 0, 1500), 2);
    }

    private static void quarrels() {
        LentFiddles x = ofTwo();
        due.is(24, "no quarrels", x.gaps(0, 1), 0);
        x.holder(0, 1, 1600, 1610);
        x.holder(0, 2, 1610, 1620);
        due.is(24, "one shared year", x.gaps(0, 1), 1);
        x.holder(0, 1, 1611, 1611);
        due.is(24, "one more, like names do not", x.gaps(0, 1), 2);
        x.holder(0, 1, 1605, 1606);
        due.is(24, "like names", x.gaps(0, 1), 2);
        x.holder(1, 9, 1500, 2100);
        due.is(24, "of another violin", x.gaps(0, 1), 2);
        x.holder(0, 9, 1500, 2100);
        due.is(24, "with all", x.gaps(0, 1), 6);
        x.holder(0, 8, 1622, 1622);
        due.is(24, "ahead, behind", x.gaps(0, 1), 7);
    }

    private static void claimStands() {
        LentFiddles x = ofTwo();
        x.holder(0, 1, 1700, 1710);
        due.is(26, "no next one", x.claim(0, 1, 1705), 0);
        x.holder(0, 1, 1720, 1730);
        due.is(26, "the next has the same name", x.claim(0, 1, 1705), 0);
        x.holder(0, 2, 1715, 1716);
        due.is(26, "the next has another", x.claim(0, 1, 1700), 2);
        due.is(26, "in its last year", x.claim(0, 1, 1710), 2);
        due.is(26, "ahead of its years", x.claim(0, 1, 1699), 0);
        due.is(26, "another name has not the year", x.claim(0, 3, 1705), 0);
        x.holder(0, 1, 1715, 1715);
        due.is(26, "of like years the least number", x.claim(0, 1, 1710), 2);
        x.holder(0, 3, 1711, 1711);
        due.is(26, "one has the year behind", x.claim(0, 1, 1705), 0);
        LentFiddles y = ofTwo();
        y.holder(0, 2, 1700, 1720);
        y.holder(0, 1, 1700, 1710);
        y.holder(0, 1, 1690, 1730);
        y.holder(0, 3, 1740, 1750);
        due.is(26, "the first by number counts", y.claim(0, 1, 1705), 1);
        due.is(26, "the third has the year alone, the next is of two the first", y.claim(0, 1, 1695), 2);
        due.is(26, "the third has the year alone", y.claim(0, 1, 1725), 2);
        due.is(26, "another has the year behind", y.claim(0, 2, 1700), 1);
        due.is(26, "of another violin", y.claim(1, 1, 1725), 0);
        LentFiddles z = ofTwo();
        z.holder(0, 1, 1690, 1730);
        z.holder(0, 1, 1700, 1710);
        z.holder(0, 2, 1740, 1750);
        due.is(26, "the next is above the year", z.claim(0, 1, 1695), 0);
        due.is(26, "of two the first by number", z.claim(0, 1, 1705), 2);
        z.holder(0, 1, 1740, 1741);
        due.is(26, "the next one, the least number", z.claim(0, 1, 1730), 2);
        z.holder(0, 1, 1739, 1739);
        due.is(26, "the next one, the least from", z.claim(0, 1, 1730), 0);
    }

    private static void claimIsOpen() {
        LentFiddles x = ofTwo();
        x.holder(0, 1, 1700, 1710);
        x.holder(0, 2, 1710, 1720);
        x.holder(0, 1, 1730, 1740);
        due.is(26, "both have it", x.claim(0, 1, 1710), 1);
        due.is(26, "both have it, it stands", x.claim(0, 2, 1710), 2);
        due.is(26, "one of no name there", x.claim(0, 3, 1710), 0);
        due.is(26, "alone, another behind", x.claim(0, 1, 1709), 0);
        due.is(26, "a gap's first", x.claim(0, 7, 1721), 1);
        due.is(26, "a gap's last", x.claim(0, 1, 1729), 1);
        due.is(26, "behind all", x.claim(0, 1, 1741), 0);
        due.is(26, "ahead of all", x.claim(0, 1, 1699), 0);
        due.is(26, "another violin's gap", x.claim(1, 1, 1725), 0);
        x.holder(0, 1, 1735, 1736);
        due.is(26, "both of one name", x.claim(0, 1, 1735), 0);
    }

    private static void claimAtTheEnds() {
        LentFiddles x = ofTwo();
        x.holder(0, 1, 1500, 2100);
        due.is(26, "no next one", x.claim(0, 1, 2100), 0);
        x.holder(0, 2, 2000, 2100);
        due.is(26, "nothing behind the last year", x.claim(0, 1, 1999), 2);
        due.is(26, "none above the year", x.claim(0, 1, 2000), 1);
        due.is(26, "the first year", x.claim(0, 1, 1500), 2);
        due.is(26, "the last year", x.claim(0, 3, 2100), 0);
    }

    private static void claimRefused() {
        LentFiddles x = ofTwo();
        due.is(26, "no holder", x.claim(0, 0, 1500), 0);
        due.is(26, "no violin", x.claim(2, -1, 0), Due.UNKNOWN);
        due.is(26, "no violin", x.claim(-1, 0, 1500), Due.UNKNOWN);
        due.is(26, "name", x.claim(0, -1, 1500), Due.OUTSIDE);
        due.is(26, "name", x.claim(0, 100, 1500), Due.OUTSIDE);
        due.is(26, "year", x.claim(0, 0, 1499), Due.OUTSIDE);
        due.is(26, "year", x.claim(0, 99, 2101), Due.OUTSIDE);
    }
}
