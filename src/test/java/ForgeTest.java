/** Promise 15: forge. */
final class ForgeTest {
    private static final Checks CHECKS = new Checks();

    public static void main(String[] args) {
        thereAnyhow();
        fewestPence();
        ties();
        atMostNine();
        refusals();
        CHECKS.end();
    }

    private static void thereAnyhow() {
        SolsticeBoys x = Checks.townOf(Checks.FOUR);
        forged(x, 0, 2, 2, 0, SolsticeBoys.NONE, SolsticeBoys.NONE);
        forged(x, 0, 0, 0, 0, SolsticeBoys.NONE, SolsticeBoys.NONE);
        forged(x, 0, 1, 0, SolsticeBoys.NONE, SolsticeBoys.NONE, SolsticeBoys.NONE);
    }

    private static void fewestPence() {
        SolsticeBoys x = Checks.townOf(Checks.FOUR);
        forged(x, 0, 3, 1, 2, 0, 3);
        forged(x, 0, 2, 1, 4, 0, 2);
        forged(x, 0, 0, 2, 4, 0, 2);
        CHECKS.due("nothing is changed", x.owes(0, 2), 0);
        CHECKS.due("nothing is changed", x.next(0), 1);
    }

    private static void ties() {
        // A lesser number wins where he owes alike, so it costs a penny less.
        SolsticeBoys lesser = Checks.townOf("j3,030,000,000;b2");
        lesser.owe(2, 1, 5);
        forged(lesser, 0, 0, 1, 5, 2, 0);
        lesser.owe(2, 0, 6);
        forged(lesser, 0, 1, 1, 2, 2, 1);
        // One who owes nothing gives his boys away for a penny.
        SolsticeBoys none = Checks.townOf("j4,0000,0000,0000,0000;b1");
        forged(none, 0, 0, 1, 1, 1, 0);
        forged(none, 0, 3, 20, 1, 1, 3);
        forged(none, 0, 1, 20, 0, SolsticeBoys.NONE, SolsticeBoys.NONE);
        // 0 to 2 or 3 to 2, a penny each: the least who owes.
        SolsticeBoys ower = Checks.townOf("j4,0001,0000,0000,0000;b0");
        forged(ower, 0, 2, 2, 1, 0, 2);
        // 1 to 2 is a penny, 0 to 2 two of them: the fewest pence, though 0 is the lesser.
        SolsticeBoys fewer = Checks.townOf("j4,0100,0001,0000,0000;b0");
        forged(fewer, 0, 2, 2, 1, 1, 2);
        SolsticeBoys alike = Checks.townOf("j4,0110,0011,0000,0000;b0");
        forged(alike, 0, 3, 2, 1, 1, 3);
        // By 1 or by 2 as well, a penny each: the least to whom.
        SolsticeBoys whom = Checks.townOf("j4,0001,1000,1000,0000;b0");
        forged(whom, 0, 0, 2, 1, 0, 1);
    }

    private static void atMostNine() {
        SolsticeBoys x = Checks.townOf("j3,090,000,000;b0");
        forged(x, 0, 2, 1, SolsticeBoys.NONE, SolsticeBoys.NONE, SolsticeBoys.NONE);
        x.owe(0, 1, 8);
        forged(x, 0, 2, 1, 9, 0, 2);
        SolsticeBoys down = Checks.townOf("j3,009,000,000;b0");
        forged(down, 0, 1, 1, 9, 0, 1);
    }

    private static void refusals() {
        SolsticeBoys x = Checks.townOf(Checks.FOUR);
        CHECKS.due("no boy", x.forge(3, 0, 21, 3), SolsticeBoys.UNKNOWN);
        CHECKS.due("no boy", x.forge(-1, 0, 0, 0), SolsticeBoys.UNKNOWN);
        CHECKS.due("no master", x.forge(0, 4, 21, 3), SolsticeBoys.UNKNOWN);
        CHECKS.due("no master", x.forge(0, -1, 0, 0), SolsticeBoys.UNKNOWN);
        CHECKS.due("n", x.forge(0, 0, 21, 0), SolsticeBoys.OUTSIDE);
        CHECKS.due("n", x.forge(0, 0, -1, 0), SolsticeBoys.OUTSIDE);
        CHECKS.due("what", x.forge(0, 0, 0, 3), SolsticeBoys.OUTSIDE);
        CHECKS.due("what", x.forge(0, 0, 0, -1), SolsticeBoys.OUTSIDE);
        CHECKS.due("n 20", x.forge(0, 2, 20, 0), 0);
    }

    private static void forged(SolsticeBoys x, int b, int m, int n, int pence, int who, int whom) {
        String call = "forge " + b + " " + m + " " + n + " ";
        CHECKS.due(call + 0, x.forge(b, m, n, 0), pence);
        CHECKS.due(call + 1, x.forge(b, m, n, 1), who);
        CHECKS.due(call + 2, x.forge(b, m, n, 2), whom);
    }
}
