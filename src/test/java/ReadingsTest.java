/** Promises 16 to 22: reading, exam, back, debts, bound, kinds, odds. */
final class ReadingsTest {
    private static final Checks CHECKS = new Checks();

    public static void main(String[] args) {
        numbersAndFull();
        refusals();
        back();
        debts();
        boundAndKinds();
        readingsFollowTheTown();
        odds();
        oddsRefusals();
        CHECKS.end();
    }

    private static void numbersAndFull() {
        SolsticeBoys x = Checks.townOf(Checks.FOUR);
        for (int k = 0; k < 8; k++) {
            CHECKS.due("number " + k, k % 2 == 0 ? x.reading(0, 20, 3) : x.exam(2, 20, 0, 40), k);
            CHECKS.due("many", x.many(2), k + 1);
        }
        CHECKS.due("a ninth", x.reading(0, 0, 0), SolsticeBoys.FULL);
        CHECKS.due("a ninth", x.exam(0, 0, 0, 0), SolsticeBoys.FULL);
        CHECKS.due("many", x.many(2), 8);
        CHECKS.due("OUTSIDE ahead of FULL", x.reading(0, 21, 0), SolsticeBoys.OUTSIDE);
        CHECKS.due("OUTSIDE ahead of FULL", x.exam(0, 0, 0, 41), SolsticeBoys.OUTSIDE);
        CHECKS.due("UNKNOWN ahead of FULL", x.reading(3, 21, 0), SolsticeBoys.UNKNOWN);
    }

    private static void refusals() {
        SolsticeBoys x = Checks.townOf(Checks.FOUR);
        CHECKS.due("no boy", x.reading(3, 99, 0), SolsticeBoys.UNKNOWN);
        CHECKS.due("no boy", x.reading(-1, 0, 0), SolsticeBoys.UNKNOWN);
        CHECKS.due("no master", x.reading(0, 99, 4), SolsticeBoys.UNKNOWN);
        CHECKS.due("no master", x.reading(0, 0, -1), SolsticeBoys.UNKNOWN);
        CHECKS.due("n", x.reading(0, 21, 0), SolsticeBoys.OUTSIDE);
        CHECKS.due("n", x.reading(0, -1, 0), SolsticeBoys.OUTSIDE);
        CHECKS.due("no boy", x.exam(3, 99, 0, 99), SolsticeBoys.UNKNOWN);
        CHECKS.due("no boy", x.exam(-1, 0, 0, 0), SolsticeBoys.UNKNOWN);
        CHECKS.due("no master", x.exam(0, 99, 4, 99), SolsticeBoys.UNKNOWN);
        CHECKS.due("no master", x.exam(0, 0, -1, 0), SolsticeBoys.UNKNOWN);
        CHECKS.due("n", x.exam(0, 21, 0, 0), SolsticeBoys.OUTSIDE);
        CHECKS.due("n", x.exam(0, -1, 0, 0), SolsticeBoys.OUTSIDE);
        CHECKS.due("v", x.exam(0, 0, 0, 41), SolsticeBoys.OUTSIDE);
        CHECKS.due("v", x.exam(0, 0, 0, -1), SolsticeBoys.OUTSIDE);
        CHECKS.due("none is kept", x.many(2), 0);
        CHECKS.due("debts to himself", x.debts(1, 1), SolsticeBoys.UNKNOWN);
        CHECKS.due("debts", x.debts(4, 1), SolsticeBoys.UNKNOWN);
        CHECKS.due("debts", x.debts(1, 4), SolsticeBoys.UNKNOWN);
        CHECKS.due("debts", x.debts(-1, 1), SolsticeBoys.UNKNOWN);
        CHECKS.due("debts", x.debts(1, -1), SolsticeBoys.UNKNOWN);
        CHECKS.due("bound", x.bound(3), SolsticeBoys.UNKNOWN);
        CHECKS.due("bound", x.bound(-1), SolsticeBoys.UNKNOWN);
        CHECKS.due("kinds", x.kinds(3), SolsticeBoys.UNKNOWN);
        CHECKS.due("kinds", x.kinds(-1), SolsticeBoys.UNKNOWN);
    }

    private static void back() {
        SolsticeBoys x = Checks.townOf(Checks.FOUR);
        x.reading(0, 0, 0);
        x.reading(0, 1, 3);
        x.reading(0, 2, 2);
        CHECKS.due("the second is wrong", x.bound(0), 0);
        CHECKS.due("too many", x.back(4), SolsticeBoys.OUTSIDE);
        CHECKS.due("below 0", x.back(-1), SolsticeBoys.OUTSIDE);
        CHECKS.due("none", x.back(0), 3);
        CHECKS.due("the last", x.back(1), 2);
        CHECKS.due("the second is still there", x.bound(0), 0);
        CHECKS.due("the second", x.back(1), 1);
        CHECKS.due("the first is there", x.bound(0), 1);
        CHECKS.due("its number anew", x.reading(0, 0, 0), 1);
        CHECKS.due("all", x.back(2), 0);
        CHECKS.due("none binds", x.bound(0), 15);
        CHECKS.due("no more", x.back(1), SolsticeBoys.OUTSIDE);
    }

    private static void debts() {
        SolsticeBoys x = Checks.townOf(Checks.FOUR);
        CHECKS.due("without readings", x.debts(0, 1), 1023);
        x.reading(0, 1, 1);
        CHECKS.due("2 (the least of several) and more", x.debts(0, 1), 1023 - 3);
        CHECKS.due("up to 3", x.debts(0, 2), 15);
        CHECKS.due("of another", x.debts(1, 0), 1023);
        x.owe(0, 1, 0);
        CHECKS.due("alike beats it to a greater one only", x.debts(0, 1), 1023 - 3);
        CHECKS.due("by no other debt", x.debts(0, 3), 0);
        CHECKS.due("by no other debt", x.debts(1, 3), 0);
        CHECKS.due("nothing is changed", x.owes(0, 1), 0);
        SolsticeBoys exams = Checks.townOf("j2,01,00;b0");
        exams.exam(0, 2, 0, 6);
        CHECKS.due("he went on", exams.debts(0, 1), 1022);
        exams.back(1);
        exams.exam(0, 2, 0, 15);
        CHECKS.due("he stayed", exams.debts(0, 1), 1);
        CHECKS.due("nothing is changed", exams.owes(0, 1), 1);
    }

    private static void boundAndKinds() {
        SolsticeBoys x = Checks.townOf(Checks.FOUR);
        CHECKS.due("without readings", x.bound(0), 15);
        CHECKS.due("without readings", x.kinds(0), 7);
        x.reading(0, 1, 1);
        CHECKS.due("from 0 or 3", x.bound(0), 9);
        CHECKS.due("any kind", x.kinds(0), 7);
        x.exam(0, 1, 0, 9);
        CHECKS.due("from 0", x.bound(0), 1);
        CHECKS.due("a boy", x.kinds(0), 1);
        CHECKS.due("the others: any", x.bound(1), 15);
        CHECKS.due("the others: any", x.kinds(1), 7);
        x.exam(1, 1, 3, 12);
        CHECKS.due("clever", x.kinds(1), 2);
        x.exam(2, 1, 1, 4);
        CHECKS.due("a dunce", x.kinds(2), 4);
        x.exam(2, 1, 1, 9);
        CHECKS.due("not both", x.kinds(2), 0);
        CHECKS.due("then nothing of all", x.bound(0), 0);
        CHECKS.due("nothing is changed", x.ofBoy(2, 0), 2);
        CHECKS.due("nothing is changed", x.ofBoy(2, 1), 1);
        SolsticeBoys none = Checks.townOf("j2,00,00;b0");
        none.exam(0, 20, 1, 0);
        CHECKS.due("what nobody learns", none.kinds(0), 7);
        CHECKS.due("bound elsewhere he would learn it", none.bound(0), 1);
    }

    private static void readingsFollowTheTown() {
        SolsticeBoys x = Checks.townOf(Checks.FOUR);
        x.reading(0, 1, 2);
        CHECKS.due("so far bound to 1", x.bound(0), 2);
        x.owe(0, 2, 9);
        CHECKS.due("by a new debt", x.bound(0), 3);
        x.bind(0, 3);
        CHECKS.due("debts by where he is bound now", x.debts(3, 2), 1023 - 3);
        CHECKS.due("readings stay", x.many(2), 1);
    }

    private static void odds() {
        SolsticeBoys x = Checks.townOf("j2,05,00;b0;b1");
        odds(x, 0, 0, 1, 1, 2);
        odds(x, 0, 1, 1, 1, 2);
        odds(x, 1, 1, 20, 1, 1);
        odds(x, 1, 0, 20, 0, 1);
        odds(x, 0, 0, 0, 1, 1);
        SolsticeBoys round = Checks.townOf("j5,01000,00100,00010,00001,10000;b0");
        odds(round, 0, 0, 5, 17, 32);
        odds(round, 0, 4, 20, 1, 32);
        // What is paid is the debt to the next alone: then he goes on to the one who is owed most of the rest.
        SolsticeBoys rest = Checks.townOf("j3,045,000,000;b0");
        odds(rest, 0, 2, 1, 1, 2);
        odds(rest, 0, 1, 1, 1, 2);
        odds(rest, 0, 0, 1, 0, 1);
        CHECKS.due("nothing is changed", rest.owes(0, 2), 5);
    }

    private static void odds(SolsticeBoys x, int b, int m, int n, int upper, int lower) {
        String call = "odds " + b + " " + m + " " + n + " ";
        CHECKS.due(call + 0, x.odds(b, m, n, 0), upper);
        CHECKS.due(call + 1, x.odds(b, m, n, 1), lower);
    }

    private static void oddsRefusals() {
        SolsticeBoys x = Checks.townOf(Checks.FOUR);
        int[][] calls = {{3, 0, 0, 0}, {-1, 0, 0, 0}, {0, 4, 0, 0}, {0, -1, 0, 0},
            {0, 0, 21, 0}, {0, 0, -1, 0}, {0, 0, 0, 2}, {0, 0, 0, -1}};
        x.as(0, 1);
        for (int[] call : calls) {
            CHECKS.due("odds", x.odds(call[0], call[1], call[2], call[3]), SolsticeBoys.LOST);
        }
        CHECKS.due("odds names no fault", x.fault(), 2);
        CHECKS.due("LOST", SolsticeBoys.LOST, Long.MIN_VALUE);
    }
}
