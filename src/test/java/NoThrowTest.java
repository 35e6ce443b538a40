import java.util.Random;

/** Random calls with any arguments: none throws, and those that are refused or only ask change nothing. */
final class NoThrowTest {
    private static final Checks CHECKS = new Checks();
    private static final Random RANDOM = new Random(33);
    private static final int[] NUMBERS = {0, 0, 0, 1, 1, 1, 2, 2, 3, 4, 5, 9, 10, 20, 21, 40, 41, 59, 60, 61,
        -1, -2, Integer.MIN_VALUE, Integer.MIN_VALUE + 1, Integer.MAX_VALUE, Integer.MAX_VALUE - 1};
    private static final String[] TEXTS = {Checks.FOUR, "j2,01,10;d0", "j5,01234,10234,12034,12304,12340;b0;c4;d2;b1"};

    public static void main(String[] args) {
        for (int round = 0; round < 400; round++) {
            SolsticeBoys x = new SolsticeBoys();
            for (int step = 0; step < 300; step++) {
                if (RANDOM.nextInt(40) == 0) {
                    Checks.found(x, TEXTS[RANDOM.nextInt(TEXTS.length)]);
                }
                int which = RANDOM.nextInt(31);
                String before = Checks.state(x);
                long answer = call(x, which);
                boolean changes = answer >= 0 && changesWhenTaken(which);
                if (!changes && !Checks.state(x).equals(before)) {
                    CHECKS.isTrue("call " + which + " that answered " + answer + " changes nothing", false);
                }
            }
        }
        CHECKS.isTrue("all calls came back", true);
        CHECKS.end();
    }

    private static int any() {
        return NUMBERS[RANDOM.nextInt(NUMBERS.length)];
    }

    private static boolean changesWhenTaken(int which) {
        switch (which) {
            case 0: case 3: case 4: case 14: case 15: case 16: case 21: case 22: case 23: case 25: case 26: case 27:
                return true;
            default:
                return false;
        }
    }

    private static long call(SolsticeBoys x, int which) {
        switch (which) {
            case 0: return x.town(any(), any(), any(), any());
            case 1: return x.ofBoy(any(), any());
            case 2: return x.owes(any(), any());
            case 3: return x.owe(any(), any(), any());
            case 4: return x.bind(any(), any());
            case 5: return x.next(any());
            case 6: return x.where(any(), any());
            case 7: return x.knows(any(), any(), any());
            case 8: return x.able(any());
            case 9: return x.ring(any());
            case 10: return x.home(any());
            case 11: return x.never(any());
            case 12: return x.walk(any(), any(), any(), any(), any());
            case 13: return x.forge(any(), any(), any(), any());
            case 14: return x.reading(any(), any(), any());
            case 15: return x.exam(any(), any(), any(), any());
            case 16: return x.back(any());
            case 17: return x.debts(any(), any());
            case 18: return x.bound(any());
            case 19: return x.kinds(any());
            case 20: return x.odds(any(), any(), any(), any());
            case 21: return x.sheet(any(), any(), any());
            case 22: return x.lose(any());
            case 23: return x.put(any(), any(), any());
            case 24: return x.cell(any(), any(), any());
            case 25: return x.copy(any(), any(), any(), any(), any());
            case 26: return x.tell(any());
            case 27: return x.call(any());
            case 28: return x.as(any(), any());
            case 29: return x.many(any());
            default: return x.trace() + (long) x.fault();
        }
    }
}
