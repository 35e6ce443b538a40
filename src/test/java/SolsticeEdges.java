import java.util.function.Supplier;

/** Solstices: 0 of them and as many as may be asked, who owes nothing or to several alike, walks of 0 and 40. */
final class SolsticeEdges {
    private static final int NONE = SolsticeBoys.NONE, UNKNOWN = SolsticeBoys.UNKNOWN;

    private SolsticeEdges() {
    }

    static void run(Edges edges) {
        next(edges);
        noSolstices(edges);
        where(edges);
        knows(edges);
        forgets(edges);
        able(edges);
        ring(edges);
        homeAndNever(edges);
        walkOfNone(edges);
        walkOfForty(edges);
        walkOfNoMaster(edges);
        lastCall(edges);
    }

    private static void next(Edges edges) {
        edges.says(Edges.TERMS, "to whom he OWES most: of several the least; he himself, if he OWES nothing");
        SolsticeBoys several = Checks.townOf("j5,09999,10111,01001,55505,00000;b0");
        int[] want = {1, 0, 1, 0, 4};
        for (int m = 0; m < 5; m++) {
            edges.answers(several, want[m], "next", m);
        }
        SolsticeBoys most = Checks.townOf("j5,08989,00001,12043,00000,12340;b0");
        int[] mosts = {2, 4, 3, 3, 3};
        for (int m = 0; m < 5; m++) {
            edges.answers(most, mosts[m], "next", m);
        }
        edges.says(7, "NEXT of a MASTER.");
        most.owe(3, 4, 1);
        edges.answers(most, 4, "next", 3);
        most.owe(3, 2, 1);
        edges.answers(most, 2, "next", 3);
        most.owe(3, 4, 2);
        edges.answers(most, 4, "next", 3);
        most.owe(3, 4, 0);
        most.owe(3, 2, 0);
        edges.answers(most, 3, "next", 3);
    }

    private static void noSolstices(Edges edges) {
        edges.says(Edges.TERMS, "Behind 0 SOLSTICES he is with the MASTER to whom he is bound, and KNOWS nothing.");
        SolsticeBoys x = Checks.townOf(Edges.LARGE);
        int[] boundTo = {0, 4, 2, 1};
        for (int b = 0; b < 4; b++) {
            edges.answers(x, boundTo[b], "where", b, 0);
            for (int m = 0; m < 5; m++) {
                edges.answers(x, 0, "knows", b, m, 0);
            }
        }
        edges.answers(x, 0, "able", 0);
        x.bind(0, 3);
        edges.answers(x, 3, "where", 0, 0);
        edges.answers(x, 0, "knows", 0, 3, 0);
    }

    private static void where(Edges edges) {
        edges.says(8, "With whom a BOY is behind n SOLSTICES (0 .. 60).");
        SolsticeBoys x = Checks.townOf(Edges.RING);
        int[] boundTo = {0, 2, 4};
        for (int b = 0; b < 3; b++) {
            for (int n = 0; n <= 60; n++) {
                edges.answers(x, (boundTo[b] + n) % 5, "where", b, n);
            }
        }
        edges.says(Edges.TERMS, "Debts stay as they are.");
        edges.answers(x, 1, "owes", 0, 1);
        edges.answers(x, 0, "where", 0, 0);
    }

    /** To and fro between two masters: what is told behind 60 is not what is told behind 59 or 61. */
    private static void knows(Edges edges) {
        edges.says(9, "How much a BOY KNOWS of a TRADE behind n SOLSTICES (0 .. 60).");
        SolsticeBoys x = Checks.townOf("j3,010,100,000;b0;b2;c2;d2");
        int[] first = {0, 9, 6, 13, 9, 15, 10, 16, 11, 17, 12, 17, 12};
        for (int n = 0; n < first.length; n++) {
            edges.answers(x, first[n], "knows", 0, 0, n);
        }
        edges.answers(x, 17, "knows", 0, 0, 59);
        edges.answers(x, 12, "knows", 0, 0, 60);
        edges.answers(x, 12, "knows", 0, 1, 59);
        edges.answers(x, 17, "knows", 0, 1, 60);
        edges.answers(x, 0, "knows", 0, 2, 60);
        edges.answers(x, 27, "knows", 1, 2, 60);
        edges.answers(x, 36, "knows", 2, 2, 60);
        edges.answers(x, 12, "knows", 3, 2, 60);
    }

    /** Ahead of what he learns, a third of what he knew: 12 and 9 become 12 - 4 + 9, not 12 + 9 less a third of both. */
    private static void forgets(Edges edges) {
        edges.says(Edges.TERMS, "has forgotten a third (cut) of what he KNEW of each TRADE, then LEARNT that of the MASTER");
        SolsticeBoys stays = Checks.townOf("j2,00,10;b0;c0;d0;d1");
        int[][] known = {{0, 9, 15, 19, 22, 24, 25, 26, 27, 27}, {0, 12, 20, 26, 30, 32, 34, 35, 36, 36},
            {0, 4, 7, 9, 10, 11, 12, 12, 12, 12}};
        for (int b = 0; b < 3; b++) {
            for (int n = 0; n < known[b].length; n++) {
                edges.answers(stays, known[b][n], "knows", b, 0, n);
            }
        }
        edges.says(Edges.TERMS, "Quotients are cut.");
        int[] gone = {0, 4, 3, 2, 2, 2};
        for (int n = 0; n < gone.length; n++) {
            edges.answers(stays, gone[n], "knows", 3, 1, n);
        }
        edges.answers(stays, 2, "knows", 3, 1, 60);
    }

    private static void able(Edges edges) {
        edges.says(Edges.TERMS, "TRADES of MASTERS with whom there is a BOY then who KNOWS 9 of it at least");
        SolsticeBoys nine = Checks.townOf("j2,00,00;b1");
        edges.due("knows just 9", nine.knows(0, 1, 1), 9);
        edges.answers(nine, 2, "able", 1);
        SolsticeBoys eight = Checks.townOf("j2,01,10;c0");
        edges.due("knows just 8", eight.knows(0, 0, 2), 8);
        edges.answers(eight, 0, "able", 2);
        SolsticeBoys dunce = Checks.townOf("j2,00,00;d0");
        edges.answers(dunce, 0, "able", 2);
        edges.answers(dunce, 1, "able", 3);
        // Between them they know more than 9, but none of them does.
        SolsticeBoys two = Checks.townOf("j2,00,00;d0;d0");
        edges.answers(two, 0, "able", 2);
        // He knows 12 of the trade, but is not with its master.
        edges.answers(eight, 0, "able", 1);
        edges.says(10, "ABLE, as a set.");
        SolsticeBoys all = Checks.townOf("j5,00000,00000,00000,00000,00000;b0;b1;c2;c4");
        edges.answers(all, 0, "able", 0);
        edges.answers(all, 1 + 2 + 4 + 16, "able", 1);
        edges.answers(all, 1 + 2 + 4 + 16, "able", 60);
        // Of the trade of 0 he knows 12 behind 60, and 17 behind 59 as he leaves: able at each end of an even number.
        SolsticeBoys fro = Checks.townOf("j2,01,10;b0");
        edges.answers(fro, 1, "able", 60);
        edges.answers(fro, 2, "able", 59);
    }

    private static void ring(Edges edges) {
        edges.says(Edges.TERMS, "from him to his NEXT, and so on: those who come again and again, as a set");
        SolsticeBoys alone = Checks.townOf("j5,00000,00000,00000,00000,00000;b0");
        for (int m = 0; m < 5; m++) {
            edges.answers(alone, 1 << m, "ring", m);
        }
        SolsticeBoys all = Checks.townOf(Edges.RING);
        for (int m = 0; m < 5; m++) {
            edges.answers(all, 31, "ring", m);
        }
        edges.says(11, "RING, as a set.");
        // 0 to 1 to 2 to 3 to 4, who owes nothing: the longest way to a ring.
        SolsticeBoys tail = Checks.townOf("j5,01000,00100,00010,00001,00000;b0");
        for (int m = 0; m < 5; m++) {
            edges.answers(tail, 16, "ring", m);
        }
        tail.owe(4, 3, 1);
        for (int m = 0; m < 5; m++) {
            edges.answers(tail, 24, "ring", m);
        }
        SolsticeBoys two = Checks.townOf("j5,01000,10000,00010,00100,01000;b0");
        int[] rings = {3, 3, 12, 12, 3};
        for (int m = 0; m < 5; m++) {
            edges.answers(two, rings[m], "ring", m);
        }
    }

    private static void homeAndNever(Edges edges) {
        edges.says(Edges.TERMS, "the fewest SOLSTICES, 1 at least, behind which he is with the MASTER to whom he is bound again; NONE: never.");
        SolsticeBoys stays = Checks.townOf("j2,00,10;b0;b1");
        edges.answers(stays, 1, "home", 0);
        edges.answers(stays, NONE, "home", 1);
        String[] towns = {"j2,01,10;b1", "j3,010,001,100;b1", "j4,0100,0010,0001,1000;b3", Edges.RING};
        for (int k = 0; k < towns.length; k++) {
            edges.says(12, "HOME; NONE.");
            edges.answers(Checks.townOf(towns[k]), k + 2, "home", 0);
            edges.says(13, "NEVER, as a set.");
            edges.answers(Checks.townOf(towns[k]), 0, "never", 0);
        }
        edges.says(Edges.TERMS, "MASTERS with whom he never is, however many SOLSTICES there are, as a set");
        SolsticeBoys alone = Checks.townOf("j5,00000,00000,00000,00000,00000;b0;b4");
        edges.answers(alone, 30, "never", 0);
        edges.answers(alone, 15, "never", 1);
        SolsticeBoys tail = Checks.townOf("j5,01000,00100,00010,00001,00000;b0;b4;b3");
        edges.answers(tail, 0, "never", 0);
        edges.answers(tail, 15, "never", 1);
        edges.answers(tail, 7, "never", 2);
        edges.says(12, "HOME; NONE.");
        edges.answers(tail, NONE, "home", 0);
        edges.answers(tail, 1, "home", 1);
        tail.owe(4, 1, 1);
        edges.answers(tail, NONE, "home", 0);
        edges.answers(tail, 4, "home", 1);
    }

    private static void walkOfNone(Edges edges) {
        edges.says(14, "n (0 .. 40)");
        Supplier<SolsticeBoys> make = Edges::lived;
        for (int b = 0; b < 3; b++) {
            edges.stays(make, NONE, "walk", b, 0, 0, 0, 0);
            edges.stays(make, NONE, "walk", b, 0, 0, 3, 0);
            edges.stays(make, NONE, "walk", b, 1, 1, 1, 0);
            edges.stays(make, NONE, "walk", b, 2, 2, 0, 0);
        }
        edges.says(14, "A WALK of n such cells: FIRST WRONG; NONE.");
        edges.stays(make, NONE, "walk", 0, 0, 0, 0, 1);
        edges.stays(make, NONE, "walk", 0, 0, 0, 0, 2);
        edges.stays(make, 2, "walk", 0, 0, 0, 0, 3);
        edges.stays(make, 0, "walk", 0, 0, 0, 1, 1);
        edges.stays(make, 0, "walk", 1, 0, 0, 0, 3);
        edges.stays(make, NONE, "walk", 2, 0, 0, 2, 1);
    }

    private static void walkOfForty(Edges edges) {
        edges.says(Edges.TERMS, "FIRST WRONG: the first that is not where that BOY is behind 0, 1, .. SOLSTICES.");
        for (int lane = 0; lane < 3; lane++) {
            SolsticeBoys x = Checks.townOf(Edges.RING);
            x.sheet(0, lane, 60);
            for (int i = 0; i < 60; i++) {
                x.put(0, i, i % 5);
            }
            edges.answers(x, NONE, "walk", 0, 0, lane, 0, 40);
            edges.answers(x, NONE, "walk", 0, 0, lane, 20, 40);
            edges.answers(x, NONE, "walk", 1, 0, lane, 17, 40);
            edges.answers(x, NONE, "walk", 2, 0, lane, 4, 40);
            edges.answers(x, 0, "walk", 0, 0, lane, 1, 40);
            edges.answers(x, -13, "walk", 0, 0, lane, 21, 40);
            edges.answers(x, SolsticeBoys.OUTSIDE, "walk", 0, 0, lane, 0, 41);
            for (int wrong = 39; wrong >= 0; wrong--) {
                x.put(0, 20 + wrong, (wrong + 1) % 5);
                edges.answers(x, wrong, "walk", 0, 0, lane, 20, 40);
                edges.answers(x, NONE, "walk", 0, 0, lane, 20, wrong);
            }
        }
    }

    private static void walkOfNoMaster(Edges edges) {
        edges.says(14, "UNKNOWN: a cell is no MASTER.");
        for (int beyond : new int[] {-1, 4, 256, 1 << 16, 1 << 30, Edges.LEAST_INT, Edges.MOST_INT}) {
            Supplier<SolsticeBoys> make = () -> {
                SolsticeBoys x = Edges.lived();
                Checks.writeNumbers(x, 2, 2, beyond, 0, 1, 3, beyond);
                return x;
            };
            edges.stays(make, UNKNOWN, "walk", 0, 2, 2, 0, 1);
            edges.stays(make, UNKNOWN, "walk", 0, 2, 2, 4, 1);
            // Behind a wrong one, too; but ahead of i and behind the last that is taken there may be any number.
            edges.stays(make, UNKNOWN, "walk", 0, 2, 2, 1, 4);
            edges.stays(make, 2, "walk", 0, 2, 2, 1, 3);
            edges.stays(make, NONE, "walk", 0, 2, 2, 1, 2);
            edges.stays(make, NONE, "walk", 0, 2, 2, 4, 0);
        }
        SolsticeBoys two = Checks.townOf(Edges.SMALL);
        Checks.writeNumbers(two, 0, 0, 1, 0, 2);
        edges.answers(two, NONE, "walk", 0, 0, 0, 0, 2);
        edges.answers(two, UNKNOWN, "walk", 0, 0, 0, 0, 3);
    }

    private static void lastCall(Edges edges) {
        edges.says(Edges.TERMS, "An object is used for at most 512 calls after it has been made");
        SolsticeBoys x = new SolsticeBoys();
        Checks.write(x, 0, 0, Edges.RING);
        int calls = 1 + Edges.RING.length();
        edges.due("the town", x.town(0, 0, 0, Edges.RING.length()), 3);
        for (calls++; calls < 510; calls++) {
            edges.due("call " + calls, x.where(0, calls % 61), calls % 61 % 5);
        }
        edges.due("call 511", x.knows(0, 4, 5), 9);
        edges.due("call 512", x.tell(0), 0);
    }
}
