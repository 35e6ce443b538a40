import java.util.function.Supplier;

/** Forged notes of 0 and of 9 pence, or none; readings, 8 at most, and sets that are empty or whole; shares. */
final class ReadingEdges {
    private static final int NONE = SolsticeBoys.NONE, ALL_PENCE = 1023;

    private ReadingEdges() {
    }

    static void run(Edges edges) {
        forgeOfTheTownAsItIs(edges);
        forgeOfNoPence(edges);
        forgeByNone(edges);
        forgeOfNine(edges);
        forgeOfSeveral(edges);
        noReadings(edges);
        behindNoneAndTwenty(edges);
        emptySets(edges);
        allEightCount(edges);
        ends(edges);
        examOfNothingAndForty(edges);
        shares(edges);
        sharesOfPayers(edges);
    }

    private static void forged(Edges edges, SolsticeBoys x, int[] want, int b, int m, int n) {
        String before = Edges.state(x);
        for (int what = 0; what < 3; what++) {
            edges.answers(x, want[what], "forge", b, m, n, what);
        }
        edges.due("all is as it was", Edges.state(x).equals(before) ? 1 : 0, 1);
    }

    /** Asked first of all, or right behind a change, a note is reckoned from the town as it is then. */
    private static void forgeOfTheTownAsItIs(Edges edges) {
        edges.says(15, "FORGE: PENCE more (what 0), who OWES (1), to whom (2); NONE.");
        SolsticeBoys x = Checks.townOf("j3,040,000,000;b0");
        edges.answers(x, 5, "forge", 0, 2, 1, 0);
        x.owe(0, 1, 7);
        edges.answers(x, 8, "forge", 0, 2, 1, 0);
        x.bind(0, 1);
        edges.answers(x, 1, "forge", 0, 2, 1, 0);
        edges.answers(x, 1, "forge", 0, 2, 1, 1);
        Checks.found(x, "j4,0000,0000,0000,2000;b3");
        edges.answers(x, 3, "forge", 0, 2, 1, 0);
        edges.answers(x, 3, "forge", 0, 2, 1, 1);
        edges.answers(x, 2, "forge", 0, 2, 1, 2);
    }

    private static int[] note(int pence, int who, int whom) {
        return new int[] {pence, who, whom};
    }

    private static void forgeOfNoPence(Edges edges) {
        edges.says(Edges.TERMS, "0 PENCE, NONE, NONE, if he is there anyhow");
        int[] nothing = note(0, NONE, NONE);
        forged(edges, Checks.townOf(Edges.RING), nothing, 0, 0, 0);
        forged(edges, Checks.townOf(Edges.RING), nothing, 0, 1, 1);
        forged(edges, Checks.townOf(Edges.RING), nothing, 0, 4, 19);
        forged(edges, Checks.townOf(Edges.RING), nothing, 0, 0, 20);
        forged(edges, Checks.townOf(Edges.RING), nothing, 2, 4, 20);
        forged(edges, Checks.townOf("j2,00,00;b1"), nothing, 0, 1, 20);
    }

    private static void forgeByNone(Edges edges) {
        edges.says(15, "FORGE: PENCE more (what 0), who OWES (1), to whom (2); NONE.");
        int[] none = note(NONE, NONE, NONE);
        for (int m = 1; m < 5; m++) {
            forged(edges, Checks.townOf(Edges.RING), none, 0, m, 0);
        }
        // A greater debt keeps nobody at home, and no debt is made less.
        forged(edges, Checks.townOf("j2,01,00;b0"), none, 0, 0, 1);
        forged(edges, Checks.townOf("j2,09,10;b0"), none, 0, 0, 1);
        // It would take two notes: 0 to 2, and 2 to 1.
        forged(edges, Checks.townOf("j3,010,100,100;b0"), none, 0, 1, 2);
    }

    private static void forgeOfNine(Edges edges) {
        edges.says(Edges.TERMS, "one debt of one MASTER to another one made so much greater (9 at most)");
        forged(edges, Checks.townOf("j3,090,000,000;b0"), note(NONE, NONE, NONE), 0, 2, 1);
        forged(edges, Checks.townOf("j3,098,000,000;b0"), note(NONE, NONE, NONE), 0, 2, 1);
        forged(edges, Checks.townOf("j3,080,000,000;b0"), note(9, 0, 2), 0, 2, 1);
        forged(edges, Checks.townOf("j3,088,000,000;b0"), note(1, 0, 2), 0, 2, 1);
        forged(edges, Checks.townOf("j3,009,000,000;b0"), note(9, 0, 1), 0, 1, 1);
        forged(edges, Checks.townOf("j3,089,000,000;b0"), note(1, 0, 1), 0, 1, 1);
        forged(edges, Checks.townOf("j2,00,00;b0"), note(1, 0, 1), 0, 1, 1);
        forged(edges, Checks.townOf("j2,00,00;b0"), note(1, 0, 1), 0, 1, 20);
    }

    private static void forgeOfSeveral(Edges edges) {
        edges.says(Edges.TERMS, "the fewest PENCE more: of several the least who OWES, then the least to whom");
        // 0 to 2 is two pence, 1 to 2 one: the fewest, though 0 is the lesser.
        forged(edges, Checks.townOf("j4,0200,0001,0000,0000;b0"), note(1, 1, 2), 0, 2, 2);
        // 0 to 2, 3 to 2: a penny each.
        forged(edges, Checks.townOf("j4,0001,0000,0000,0000;b0"), note(1, 0, 2), 0, 2, 2);
        // 3 to 0 is a penny; so are 0 to 1 and 0 to 2, who both owe to 0.
        forged(edges, Checks.townOf("j4,0001,1000,1000,0000;b0"), note(1, 0, 1), 0, 0, 2);
        // To 1 it would be three pence, to 2 but one.
        forged(edges, Checks.townOf("j4,0024,1000,1000,0000;b0"), note(1, 3, 0), 0, 0, 2);
        forged(edges, Checks.townOf("j4,0024,1000,1000,0900;b0"), note(2, 0, 2), 0, 0, 2);
    }

    private static void noReadings(Edges edges) {
        edges.says(Edges.TERMS, "in place of what it is alone, by which all READINGS are so");
        SolsticeBoys x = Checks.townOf(Edges.LARGE);
        for (int a = 0; a < 5; a++) {
            for (int b = 0; b < 5; b++) {
                if (a != b) {
                    edges.answers(x, ALL_PENCE, "debts", a, b);
                }
            }
        }
        for (int b = 0; b < 4; b++) {
            edges.answers(x, 31, "bound", b);
            edges.answers(x, 7, "kinds", b);
        }
        SolsticeBoys small = Checks.townOf(Edges.SMALL);
        edges.answers(small, 3, "bound", 0);
        edges.answers(small, ALL_PENCE, "debts", 1, 0);
    }

    private static void behindNoneAndTwenty(Edges edges) {
        edges.says(16, "behind n SOLSTICES a BOY was with a MASTER: its number.");
        for (int n = 0; n <= 20; n++) {
            SolsticeBoys x = Checks.townOf(Edges.RING);
            edges.answers(x, 0, "reading", 0, n, 3);
            edges.says(20, "BOUND, as a set.");
            edges.answers(x, 1 << (3 + 20 - n) % 5, "bound", 0);
            edges.answers(x, n % 5 == 3 ? 31 : 0, "bound", 1);
        }
        edges.says(17, "behind n SOLSTICES a BOY KNEW v of the TRADE of a MASTER: its number.");
        SolsticeBoys first = Checks.townOf("j2,00,00;b0");
        edges.answers(first, 0, "exam", 0, 0, 0, 0);
        edges.answers(first, 3, "bound", 0);
        edges.answers(first, 1, "exam", 0, 20, 0, 27);
        edges.answers(first, 1, "bound", 0);
        edges.answers(first, 1, "kinds", 0);
        edges.answers(first, 1, "debts", 0, 1);
    }

    private static void emptySets(Edges edges) {
        edges.says(21, "KINDS, as a set.");
        SolsticeBoys x = Checks.townOf("j2,01,10;b0;c0;d0");
        edges.answers(x, 0, "exam", 0, 1, 0, 9);
        edges.answers(x, 1, "kinds", 0);
        edges.answers(x, 1, "exam", 1, 1, 0, 12);
        edges.answers(x, 2, "kinds", 1);
        edges.answers(x, 2, "exam", 2, 1, 0, 4);
        edges.answers(x, 4, "kinds", 2);
        edges.says(Edges.TERMS, "by which all READINGS are so");
        edges.answers(x, 3, "exam", 2, 0, 0, 1);
        for (int b = 0; b < 3; b++) {
            edges.answers(x, 0, "kinds", b);
            edges.answers(x, 0, "bound", b);
        }
        edges.answers(x, 0, "debts", 0, 1);
        edges.answers(x, 0, "debts", 1, 0);
        edges.says(18, "are taken back: how many are left");
        edges.answers(x, 3, "back", 1);
        edges.answers(x, 4, "kinds", 2);
        edges.answers(x, 0, "back", 3);
        edges.answers(x, 7, "kinds", 2);
    }

    /** One that is not so among eight, in each place, empties the sets; taken back, it does so no more. */
    private static void allEightCount(Edges edges) {
        for (int wrong = 0; wrong < 8; wrong++) {
            SolsticeBoys x = Checks.townOf(Edges.RING);
            for (int k = 0; k < 8; k++) {
                edges.says(Edges.TERMS, "READINGS, 8 at most, numbered by how many there are, of two sorts");
                edges.answers(x, k, "reading", 0, k, k == wrong ? (k + 1) % 5 : k % 5);
            }
            edges.answers(x, SolsticeBoys.FULL, "reading", 0, 0, 0);
            edges.says(Edges.TERMS, "by which all READINGS are so");
            edges.answers(x, 0, "bound", 0);
            edges.says(18, "The last k READINGS");
            edges.answers(x, wrong + 1, "back", 7 - wrong);
            // Alone it only tells of another beginning.
            edges.answers(x, wrong == 0 ? 2 : 0, "bound", 0);
            edges.answers(x, wrong, "back", 1);
            edges.answers(x, wrong == 0 ? 31 : 1, "bound", 0);
            edges.answers(x, SolsticeBoys.OUTSIDE, "back", wrong + 1);
            edges.says(16, "its number.");
            edges.answers(x, wrong, "reading", 0, wrong, wrong % 5);
            edges.answers(x, 1, "bound", 0);
        }
    }

    private static void ends(Edges edges) {
        edges.says(Edges.TERMS, "DEBTS of one to another one: PENCE 0 .. 9, as a set");
        SolsticeBoys nine = Checks.townOf("j3,080,000,000;b0");
        nine.reading(0, 1, 2);
        edges.answers(nine, 512, "debts", 0, 2);
        edges.answers(nine, 0, "debts", 0, 1);
        SolsticeBoys none = Checks.townOf("j3,010,000,000;b0");
        none.reading(0, 1, 0);
        edges.answers(none, 1, "debts", 0, 1);
        edges.answers(none, 0, "debts", 0, 2);
        SolsticeBoys alike = Checks.townOf("j3,055,000,000;b0");
        alike.reading(0, 1, 1);
        edges.answers(alike, ALL_PENCE - 31, "debts", 0, 1);
        edges.answers(alike, 63, "debts", 0, 2);
        edges.says(19, "DEBTS of a to b, as a set.");
        alike.owe(0, 2, 9);
        edges.answers(alike, 512, "debts", 0, 1);
        edges.answers(alike, 63, "debts", 0, 2);
        edges.answers(alike, 0, "debts", 2, 1);
        edges.answers(alike, 9, "owes", 0, 2);
        edges.answers(alike, 1, "many", 2);
    }

    private static void examOfNothingAndForty(Edges edges) {
        edges.says(17, "v (0 .. 40)");
        SolsticeBoys x = Checks.townOf("j2,00,00;b0;c1");
        edges.answers(x, 0, "exam", 0, 20, 1, 0);
        edges.answers(x, 1, "bound", 0);
        edges.answers(x, 1, "exam", 1, 20, 1, 36);
        edges.answers(x, 2, "kinds", 1);
        edges.answers(x, 2, "bound", 1);
        Supplier<SolsticeBoys> make = () -> Checks.townOf("j2,00,00;b0;c1");
        edges.stays(make, SolsticeBoys.OUTSIDE, "exam", 0, 20, 1, -1);
        edges.stays(make, SolsticeBoys.OUTSIDE, "exam", 0, 20, 1, 41);
        edges.answers(x, 2, "exam", 1, 20, 1, 40);
        edges.answers(x, 0, "kinds", 1);
        edges.answers(x, 0, "bound", 1);
        edges.answers(x, 0, "debts", 1, 0);
    }

    private static void share(Edges edges, SolsticeBoys x, int upper, int lower, int... args) {
        edges.answers(x, upper, "odds", args[0], args[1], args[2], 0);
        edges.answers(x, lower, "odds", args[0], args[1], args[2], 1);
    }

    private static void shares(Edges edges) {
        edges.says(Edges.TERMS, "Shares are told as upper and lower number (above 0) in least terms.");
        SolsticeBoys chain = Checks.townOf("j3,010,001,000;b0;b2");
        share(edges, chain, 1, 1, 0, 0, 0);
        share(edges, chain, 0, 1, 0, 1, 0);
        share(edges, chain, 1, 2, 0, 0, 1);
        share(edges, chain, 1, 2, 0, 1, 1);
        share(edges, chain, 0, 1, 0, 2, 1);
        share(edges, chain, 1, 4, 0, 1, 20);
        share(edges, chain, 1, 4, 0, 2, 20);
        share(edges, chain, 1, 1, 1, 2, 20);
        share(edges, chain, 0, 1, 1, 0, 20);
        edges.says(22, "ODDS (which 0 the upper, 1 the lower number).");
        SolsticeBoys round = Checks.townOf(Edges.RING);
        share(edges, round, 17, 32, 0, 0, 20);
        share(edges, round, 1, 4, 0, 1, 20);
        share(edges, round, 1, 8, 0, 2, 20);
        share(edges, round, 1, 16, 0, 3, 20);
        share(edges, round, 1, 32, 0, 4, 20);
        share(edges, round, 1, 16, 0, 4, 19);
        share(edges, round, 1, 2, 0, 0, 19);
        SolsticeBoys small = Checks.townOf("j2,09,90;b1");
        share(edges, small, 3, 4, 0, 1, 20);
        share(edges, small, 1, 4, 0, 0, 20);
    }

    private static void sharesOfPayers(Edges edges) {
        edges.says(Edges.TERMS, "if each MASTER has paid what he OWES to his NEXT (all of it), or nothing, all such sets of MASTERS alike");
        SolsticeBoys rest = Checks.townOf("j3,045,000,000;b0");
        share(edges, rest, 1, 2, 0, 2, 1);
        share(edges, rest, 1, 2, 0, 1, 1);
        share(edges, rest, 0, 1, 0, 0, 20);
        SolsticeBoys alike = Checks.townOf("j3,099,000,000;b0");
        share(edges, alike, 1, 2, 0, 1, 1);
        share(edges, alike, 1, 2, 0, 2, 1);
        SolsticeBoys nothing = Checks.townOf("j5,00000,00000,00000,00000,00000;b4");
        share(edges, nothing, 1, 1, 0, 4, 20);
        share(edges, nothing, 0, 1, 0, 3, 20);
        Supplier<SolsticeBoys> make = () -> Edges.lived(Edges.RING);
        edges.stays(make, 17, "odds", 0, 0, 20, 0);
    }
}
