import java.util.Random;

/** Random towns, asked of the class and reckoned a second time by the Model. */
final class ReferenceTest {
    private static final Checks CHECKS = new Checks();
    private static final Random RANDOM = new Random(20261118);

    public static void main(String[] args) {
        for (int round = 0; round < 150; round++) {
            Model model = Model.random(RANDOM, round % 3 == 0 ? 9 : 2);
            SolsticeBoys x = Checks.townOf(model.text());
            walkedThrough(model, x);
            rings(model, x);
            forged(model, x);
            share(model, x);
            read(model, x);
        }
        for (int round = 0; round < 3000; round++) {
            text();
        }
        CHECKS.end();
    }

    private static void walkedThrough(Model model, SolsticeBoys x) {
        int[] moments = {0, 1, 2, 3, 7, 20, 59, 60};
        for (int n : moments) {
            for (int b = 0; b < model.boys; b++) {
                int[] state = model.behind(b, n);
                CHECKS.due(model.text() + " where " + b + " " + n, x.where(b, n), state[model.masters]);
                for (int trade = 0; trade < model.masters; trade++) {
                    CHECKS.due(model.text() + " knows " + b + " " + trade + " " + n, x.knows(b, trade, n), state[trade]);
                }
            }
            CHECKS.due(model.text() + " able " + n, x.able(n), model.able(n));
        }
    }

    private static void rings(Model model, SolsticeBoys x) {
        for (int m = 0; m < model.masters; m++) {
            CHECKS.due(model.text() + " next " + m, x.next(m), model.next(m));
            CHECKS.due(model.text() + " ring " + m, x.ring(m), model.ring(m));
        }
        for (int b = 0; b < model.boys; b++) {
            CHECKS.due(model.text() + " home " + b, x.home(b), model.home(b));
            CHECKS.due(model.text() + " never " + b, x.never(b), model.never(b));
        }
    }

    private static void forged(Model model, SolsticeBoys x) {
        int[] moments = {0, 1, 2, 5, 20};
        for (int n : moments) {
            for (int m = 0; m < model.masters; m++) {
                int[] want = model.forge(0, m, n);
                for (int what = 0; what < 3; what++) {
                    CHECKS.due(model.text() + " forge 0 " + m + " " + n + " " + what, x.forge(0, m, n, what), want[what]);
                }
            }
        }
    }

    private static void share(Model model, SolsticeBoys x) {
        int n = RANDOM.nextInt(21);
        for (int m = 0; m < model.masters; m++) {
            long[] want = model.odds(0, m, n);
            for (int which = 0; which < 2; which++) {
                CHECKS.due(model.text() + " odds 0 " + m + " " + n + " " + which, x.odds(0, m, n, which), want[which]);
            }
        }
    }

    /** Readings are mostly true ones, so that the sets do not all come out empty. */
    private static void read(Model model, SolsticeBoys x) {
        int count = 1 + RANDOM.nextInt(4);
        for (int k = 0; k < count; k++) {
            int b = RANDOM.nextInt(model.boys);
            int n = RANDOM.nextInt(21);
            int[] state = model.behind(b, n);
            boolean exam = RANDOM.nextBoolean();
            int m = exam || RANDOM.nextInt(8) == 0 ? RANDOM.nextInt(model.masters) : state[model.masters];
            int known = exam ? state[m] : -1;
            model.noted(b, n, m, known);
            CHECKS.due("its number", exam ? x.exam(b, n, m, known) : x.reading(b, n, m), k);
        }
        for (int a = 0; a < model.masters; a++) {
            for (int b = 0; b < model.masters; b++) {
                if (a != b) {
                    CHECKS.due(model.text() + " debts " + a + " " + b, x.debts(a, b), model.debts(a, b));
                }
            }
        }
        for (int b = 0; b < model.boys; b++) {
            CHECKS.due(model.text() + " bound " + b, x.bound(b), model.bound(b));
            CHECKS.due(model.text() + " kinds " + b, x.kinds(b), model.kinds(b));
        }
    }

    /** A text that is spoilt at one place, or cut, or drawn out: the first fault is where no match can come any more. */
    private static void text() {
        StringBuilder s = new StringBuilder(Model.random(RANDOM, 9).text());
        int place = RANDOM.nextInt(s.length());
        switch (RANDOM.nextInt(4)) {
            case 0:
                s.setLength(place);
                break;
            case 1:
                s.setCharAt(place, "j,;bcda0123456789 ".charAt(RANDOM.nextInt(18)));
                break;
            case 2:
                s.append(";c1");
                break;
            default:
                s.insert(place, s.charAt(RANDOM.nextInt(s.length())));
        }
        String text = s.toString();
        int firstFault = Model.firstFault(text);
        int want = firstFault < 0 ? text.length() - text.replace(";", "").length() : -100 - firstFault;
        CHECKS.due("town " + text, Checks.found(new SolsticeBoys(), text), want);
    }
}
