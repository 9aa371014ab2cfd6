/** Houses to ask: one with some of everything, one in which nothing more has room; and what can be read of a house. */
final class House {
    /** Reading is split, so that no house hears more than 512 calls. */
    static final int PARTS = 4;

    private House() {
    }

    static LentFiddles empty() {
        return new LentFiddles();
    }

    /**
     * Four violins, three players, three loans, looks, holders, trips, rings, an oak, a contract; sheet 0 has bytes,
     * 1 shorts, 2 ints, 3 nothing; the latest fault is INDEX.
     */
    static LentFiddles furnished() {
        LentFiddles x = new LentFiddles();
        x.violin(2, 7, 12345);
        x.violin(1, 3, 5);
        x.violin(0, 9, 1000000);
        x.violin(0, 0, 1);
        x.player(50);
        x.player(99);
        x.player(50);
        int[][] trials = {{9, 7, 9, 4}, {9, 3, 0, 1}, {6, 0, 5, 5}};
        for (int p = 0; p < 3; p++) {
            for (int v = 0; v < 4; v++) {
                x.trial(p, v, trials[p][v]);
            }
        }
        x.had(2, 4, true);
        furnishDays(x);
        furnishSheets(x);
        x.tell(0);
        x.put(0, 60, 0);
        return x;
    }

    private static void furnishDays(LentFiddles x) {
        x.lend(0, 0, 10, 20);
        x.lend(1, 0, 21, 30);
        x.lend(0, 1, 31, 40);
        x.warn(0, 5);
        x.look(0, 10, 0);
        x.look(0, 15, 0b01);
        x.look(0, 25, 0b10);
        x.look(1, 7, 1 << 15);
        x.holder(0, 1, 1700, 1710);
        x.holder(0, 2, 1720, 1730);
        x.holder(0, 3, 1705, 1708);
        x.holder(0, 3, 1740, 1750);
        x.trip(0, 12, -1);
        x.trip(1, 12, -1);
        x.trip(2, 12, 0);
        x.trip(0, 13, 1);
        x.limit(5000);
    }

    private static void furnishSheets(LentFiddles x) {
        Due.fill(x, 1, 1, 1, 2, 1, 2, 2, 1, 2);
        x.rings(0, 1, 1, 0, 7);
        x.rings(1, 1, 1, 1, 6);
        x.oak(1, 1, 0, 6, 1700);
        Due.write(x, 0, "B12;Y3");
        x.contract(0, 0, 0, 6);
        Due.fill(x, 0, 0, -1, -1, -1, -1, 3);
        Due.fill(x, 2, 2, 0, 1, 2, 70000);
    }

    /** As many violins, players, loans, looks, holders, trips as there may ever be; player 0 may have violin 9. */
    static LentFiddles full() {
        LentFiddles x = new LentFiddles();
        for (int n = 0; n < 10; n++) {
            x.violin(n % 3, n, n + 1);
            x.player(n);
        }
        for (int n = 0; n < 40; n++) {
            int p = n % 10;
            int v = (n + n / 10) % 10;
            x.trial(p, v, 1 + n);
            x.lend(p, v, n, n);
            x.look(v, n, n);
            x.holder(v, n, 1500 + n, 2100 - n);
            x.trip(v, n, n % 2);
        }
        x.trial(0, 9, 1);
        x.sheet(0, 0, 0);
        x.put(0, 60, 0);
        return x;
    }

    /** One part of all that can be read of a house; the house is used up by that. */
    static long[] read(LentFiddles x, int part) {
        Reading reading = new Reading();
        switch (part) {
            case 0: readViolins(x, reading); break;
            case 1: readPlayers(x, reading); break;
            case 2: readLoans(x, reading); break;
            default: readLooks(x, reading); break;
        }
        return reading.all();
    }

    private static void readViolins(LentFiddles x, Reading reading) {
        for (int what = 0; what < 8; what++) {
            reading.add(x.many(what));
        }
        reading.add(x.trace());
        reading.add(x.sum());
        reading.add(x.over());
        for (int letter = 0; letter < 4; letter++) {
            reading.add(x.clause(letter));
        }
        int violins = x.many(0);
        for (int v = 0; v < violins; v++) {
            for (int what = 0; what < 8; what++) {
                reading.add(x.ofViolin(v, what));
            }
            reading.add(x.wrongs(v));
            reading.add(x.gaps(v, 0));
            reading.add(x.gaps(v, 1));
            reading.add(x.best(v, 2));
        }
        reading.add(x.limit(1));
    }

    private static void readPlayers(LentFiddles x, Reading reading) {
        int players = x.many(1);
        int violins = x.many(0);
        for (int p = 0; p < players; p++) {
            for (int what = 0; what < 4; what++) {
                reading.add(x.ofPlayer(p, what));
            }
            reading.add(x.lent(p, 0));
            reading.add(x.lent(p, 1));
        }
        for (int k = 0; k < 4; k++) {
            for (int i = 0; i < 8; i++) {
                for (int lane = 0; lane < 3; lane++) {
                    reading.add(x.at(k, i, lane));
                }
            }
        }
        for (int p = 0; p < players; p++) {
            for (int v = 0; v < violins; v++) {
                reading.add(x.trial(p, v, 0));
            }
        }
    }

    private static void readLoans(LentFiddles x, Reading reading) {
        for (int l = 0; l < 40; l++) {
            reading.add(x.loan(l, 2));
            reading.add(x.loan(l, 3));
            reading.add(x.loan(l, 4));
        }
        for (int t = 0; t < 40; t++) {
            reading.add(x.plane(t));
            reading.add(x.fix(t, -1));
        }
    }

    private static void readLooks(LentFiddles x, Reading reading) {
        for (int v = 0; v < 10; v++) {
            for (int c = 0; c < 16; c++) {
                reading.add(x.born(v, c, 1));
            }
            reading.add(x.gap(v, 0, 0));
            reading.add(x.gap(v, 0, 1));
            reading.add(x.claim(v, 1, 1705));
        }
        for (int k = 1; k < 5; k++) {
            reading.add(x.laid(0, k, 0));
            reading.add(x.laid(1, k, 1));
        }
    }

    private static final class Reading {
        private final long[] answers = new long[512];
        private int count = 0;

        void add(long answer) {
            answers[count] = answer;
            count++;
        }

        long[] all() {
            return java.util.Arrays.copyOf(answers, count);
        }
    }
}
