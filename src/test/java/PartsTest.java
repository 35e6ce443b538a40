/** Promises 28 to 33: tell, call, as, trace, fault, many. */
final class PartsTest {
    private static final Checks CHECKS = new Checks();
    private int traced = 0;

    public static void main(String[] args) {
        new PartsTest().tellAndCall();
        as();
        fault();
        many();
        CHECKS.end();
    }

    private void tellAndCall() {
        SolsticeBoys x = Checks.townOf("j4,0000,0000,0000,0000;b3;c2;d1;d3");
        for (int round = 0; round < 3; round++) {
            told(x, 0, 3, 1);
            told(x, 1, 102, 2, 1);
            told(x, 2, 102, 3, 2, 1, 1);
            told(x, 3, 106, 3, 2, 1, 1);
            called(x, 0, 0, 4);
            called(x, 1, 1, 4);
            called(x, 2, 20, 5);
            called(x, 3, 20, 5);
            // The bodies run, but who is read or cast leaves nothing.
            x.ofBoy(2, 2);
            x.as(2, 1);
            CHECKS.due("trace", x.trace(), traced);
        }
        x.bind(1, 0);
        told(x, 1, 100, 2, 1);
        int[] none = {-1, 4, Integer.MIN_VALUE, Integer.MAX_VALUE};
        for (int b : none) {
            CHECKS.due("tell " + b, x.tell(b), SolsticeBoys.UNKNOWN);
            CHECKS.due("call " + b, x.call(b), SolsticeBoys.UNKNOWN);
            CHECKS.due("trace", x.trace(), traced);
        }
    }

    private void told(SolsticeBoys x, int b, int want, int... bodies) {
        CHECKS.due("tell " + b, x.tell(b), want);
        traced(x, bodies);
    }

    private void called(SolsticeBoys x, int b, int want, int body) {
        CHECKS.due("call " + b, x.call(b), want);
        traced(x, body);
    }

    private void traced(SolsticeBoys x, int... bodies) {
        for (int body : bodies) {
            traced = 31 * traced + body;
        }
        CHECKS.due("trace", x.trace(), traced);
    }

    private static void as() {
        SolsticeBoys x = Checks.townOf("j2,00,00;b0;c0;d0");
        for (int b = 0; b < 3; b++) {
            for (int kind = 0; kind < 3; kind++) {
                CHECKS.due("as " + b + " " + kind, x.as(b, kind), kind <= b ? 1 : Checks.CAST);
                CHECKS.due("its fault", x.fault(), kind <= b ? 0 : 2);
            }
        }
        asRefused(x, 0, 3, SolsticeBoys.OUTSIDE);
        asRefused(x, 0, -1, SolsticeBoys.OUTSIDE);
        asRefused(x, 3, 3, SolsticeBoys.UNKNOWN);
        asRefused(x, -1, 0, SolsticeBoys.UNKNOWN);
    }

    private static void asRefused(SolsticeBoys x, int b, int kind, int want) {
        x.as(0, 2);
        CHECKS.due("as " + b + " " + kind, x.as(b, kind), want);
        CHECKS.due("fault behind a refusal", x.fault(), 0);
    }

    private static void fault() {
        SolsticeBoys x = Checks.townOf(Checks.FOUR);
        CHECKS.due("none", x.fault(), 0);
        x.as(0, 2);
        CHECKS.due("told", x.fault(), 2);
        CHECKS.due("told again", x.fault(), 2);
        x.ofBoy(9, 9);
        x.owes(9, 9);
        x.owe(9, 9, 9);
        x.bind(9, 9);
        x.next(9);
        x.where(0, 1);
        x.knows(0, 0, 1);
        x.able(1);
        x.ring(0);
        x.home(0);
        x.never(0);
        x.forge(0, 0, 1, 0);
        x.reading(0, 0, 0);
        x.exam(0, 0, 0, 0);
        x.back(1);
        x.debts(0, 1);
        x.bound(0);
        x.kinds(0);
        x.odds(0, 0, 1, 0);
        x.lose(0);
        x.tell(0);
        x.call(0);
        x.trace();
        x.many(0);
        CHECKS.due("calls that name none leave it", x.fault(), 2);
        x.town(9, 0, 0, 0);
        CHECKS.due("a refused one does not", x.fault(), 0);
    }

    private static void many() {
        SolsticeBoys x = Checks.townOf(Checks.FOUR);
        x.reading(0, 0, 0);
        x.exam(0, 0, 0, 0);
        int[] want = {3, 4, 2};
        for (int what = 0; what < 3; what++) {
            CHECKS.due("many " + what, x.many(what), want[what]);
        }
        CHECKS.due("many -1", x.many(-1), SolsticeBoys.OUTSIDE);
        CHECKS.due("many 3", x.many(3), SolsticeBoys.OUTSIDE);
    }
}
