import java.util.Arrays;
import java.util.Random;
import java.util.regex.Matcher;
import java.util.regex.Pattern;

/** Random towns, asked of the class and reckoned a second time by the most naive way there is. */
final class ReferenceTest {
    private static final Checks CHECKS = new Checks();
    private static final Random RANDOM = new Random(20261118);

    /** A town as plain rows; every solstice is lived through by one step. */
    private static final class Model {
        int masters;
        int boys;
        int[][] owed;
        int[] kind;
        int[] boundTo;
        int[][] readings = new int[8][];
        int readingCount;

        static Model random(int mostPence) {
            Model t = new Model();
            t.masters = 2 + RANDOM.nextInt(4);
            t.boys = 1 + RANDOM.nextInt(4);
            t.owed = new int[t.masters][t.masters];
            for (int a = 0; a < t.masters; a++) {
                for (int b = 0; b < t.masters; b++) {
                    t.owed[a][b] = a == b || RANDOM.nextInt(3) == 0 ? 0 : RANDOM.nextInt(mostPence + 1);
                }
            }
            t.kind = new int[t.boys];
            t.boundTo = new int[t.boys];
            for (int b = 0; b < t.boys; b++) {
                t.kind[b] = RANDOM.nextInt(3);
                t.boundTo[b] = RANDOM.nextInt(t.masters);
            }
            return t;
        }

        String text() {
            StringBuilder s = new StringBuilder("j").append(masters);
            for (int[] row : owed) {
                s.append(',');
                Arrays.stream(row).forEach(s::append);
            }
            for (int b = 0; b < boys; b++) {
                s.append(';').append("bcd".charAt(kind[b])).append(boundTo[b]);
            }
            return s.toString();
        }

        Model changed() {
            Model t = new Model();
            t.masters = masters;
            t.boys = boys;
            t.owed = new int[masters][];
            for (int a = 0; a < masters; a++) {
                t.owed[a] = owed[a].clone();
            }
            t.kind = kind.clone();
            t.boundTo = boundTo.clone();
            t.readings = readings;
            t.readingCount = readingCount;
            return t;
        }

        int next(int m) {
            int most = Arrays.stream(owed[m]).max().getAsInt();
            if (most == 0) {
                return m;
            }
            int b = 0;
            while (owed[m][b] != most) {
                b++;
            }
            return b;
        }

        /** Behind n solstices: what he knows of each trade, and last with whom he is. */
        int[] behind(int b, int n) {
            int[] state = new int[masters + 1];
            state[masters] = boundTo[b];
            for (int k = 0; k < n; k++) {
                for (int trade = 0; trade < masters; trade++) {
                    state[trade] = state[trade] - state[trade] / 3;
                }
                state[state[masters]] += new int[] {9, 12, 4}[kind[b]];
                state[masters] = next(state[masters]);
            }
            return state;
        }

        int where(int b, int n) {
            return behind(b, n)[masters];
        }

        int able(int n) {
            int set = 0;
            for (int b = 0; b < boys; b++) {
                int[] state = behind(b, n);
                set |= state[state[masters]] >= 9 ? 1 << state[masters] : 0;
            }
            return set;
        }

        int[] forge(int b, int m, int n) {
            if (where(b, n) == m) {
                return new int[] {0, -9, -9};
            }
            for (int more = 1; more <= 9; more++) {
                for (int from = 0; from < masters; from++) {
                    for (int to = 0; to < masters; to++) {
                        if (from != to && owed[from][to] + more <= 9) {
                            Model t = changed();
                            t.owed[from][to] += more;
                            if (t.where(b, n) == m) {
                                return new int[] {more, from, to};
                            }
                        }
                    }
                }
            }
            return new int[] {-9, -9, -9};
        }

        boolean fits() {
            for (int k = 0; k < readingCount; k++) {
                int[] r = readings[k];
                int[] state = behind(r[0], r[1]);
                if (r[3] < 0 ? state[masters] != r[2] : state[r[2]] != r[3]) {
                    return false;
                }
            }
            return true;
        }

        long[] odds(int b, int m, int n) {
            int there = share(this, 0, b, m, n);
            int all = 1 << masters;
            int divisor = java.math.BigInteger.valueOf(there).gcd(java.math.BigInteger.valueOf(all)).intValue();
            return new long[] {there / divisor, all / divisor};
        }

        private int share(Model paid, int master, int b, int m, int n) {
            if (master == masters) {
                return paid.where(b, n) == m ? 1 : 0;
            }
            Model t = paid.changed();
            t.owed[master][next(master)] = 0;
            return share(paid, master + 1, b, m, n) + share(t, master + 1, b, m, n);
        }
    }

    public static void main(String[] args) {
        for (int round = 0; round < 150; round++) {
            Model model = Model.random(round % 3 == 0 ? 9 : 2);
            SolsticeBoys x = Checks.townOf(model.text());
            walkedThrough(model, x);
            rings(model, x);
            forged(model, x);
            share(model, x);
            read(model, x);
        }
        for (int round = 0; round < 3000; round++) {
            text();
        }
        CHECKS.end();
    }

    private static void walkedThrough(Model model, SolsticeBoys x) {
        int[] moments = {0, 1, 2, 3, 7, 20, 59, 60};
        for (int n : moments) {
            for (int b = 0; b < model.boys; b++) {
                int[] state = model.behind(b, n);
                CHECKS.due(model.text() + " where " + b + " " + n, x.where(b, n), state[model.masters]);
                for (int trade = 0; trade < model.masters; trade++) {
                    CHECKS.due(model.text() + " knows " + b + " " + trade + " " + n, x.knows(b, trade, n), state[trade]);
                }
            }
            CHECKS.due(model.text() + " able " + n, x.able(n), model.able(n));
        }
    }

    private static void rings(Model model, SolsticeBoys x) {
        for (int m = 0; m < model.masters; m++) {
            CHECKS.due(model.text() + " next " + m, x.next(m), model.next(m));
            Model from = model.changed();
            from.boundTo[0] = m;
            int ring = 0;
            for (int n = 60; n < 90; n++) {
                ring |= 1 << from.where(0, n);
            }
            CHECKS.due(model.text() + " ring " + m, x.ring(m), ring);
        }
        for (int b = 0; b < model.boys; b++) {
            int home = -9;
            int met = 0;
            for (int n = 30; n >= 0; n--) {
                int master = model.where(b, n);
                met |= 1 << master;
                home = n > 0 && master == model.boundTo[b] ? n : home;
            }
            CHECKS.due(model.text() + " home " + b, x.home(b), home);
            CHECKS.due(model.text() + " never " + b, x.never(b), (1 << model.masters) - 1 - met);
        }
    }

    private static void forged(Model model, SolsticeBoys x) {
        int[] moments = {0, 1, 2, 5, 20};
        for (int n : moments) {
            for (int m = 0; m < model.masters; m++) {
                int[] want = model.forge(0, m, n);
                for (int what = 0; what < 3; what++) {
                    CHECKS.due(model.text() + " forge 0 " + m + " " + n + " " + what, x.forge(0, m, n, what), want[what]);
                }
            }
        }
    }

    private static void share(Model model, SolsticeBoys x) {
        int n = RANDOM.nextInt(21);
        for (int m = 0; m < model.masters; m++) {
            long[] want = model.odds(0, m, n);
            for (int which = 0; which < 2; which++) {
                CHECKS.due(model.text() + " odds 0 " + m + " " + n + " " + which, x.odds(0, m, n, which), want[which]);
            }
        }
    }

    /** Readings are mostly true ones, so that the sets do not all come out empty. */
    private static void read(Model model, SolsticeBoys x) {
        int count = 1 + RANDOM.nextInt(4);
        for (int k = 0; k < count; k++) {
            int b = RANDOM.nextInt(model.boys);
            int n = RANDOM.nextInt(21);
            int[] state = model.behind(b, n);
            boolean exam = RANDOM.nextBoolean();
            int m = exam || RANDOM.nextInt(8) == 0 ? RANDOM.nextInt(model.masters) : state[model.masters];
            int known = exam ? state[m] : -1;
            model.readings[model.readingCount++] = new int[] {b, n, m, known};
            CHECKS.due("its number", exam ? x.exam(b, n, m, known) : x.reading(b, n, m), k);
        }
        for (int a = 0; a < model.masters; a++) {
            for (int b = 0; b < model.masters; b++) {
                if (a != b) {
                    CHECKS.due(model.text() + " debts " + a + " " + b, x.debts(a, b), debts(model, a, b));
                }
            }
        }
        for (int b = 0; b < model.boys; b++) {
            CHECKS.due(model.text() + " bound " + b, x.bound(b), bound(model, b));
            CHECKS.due(model.text() + " kinds " + b, x.kinds(b), kinds(model, b));
        }
    }

    private static int debts(Model model, int a, int b) {
        int set = 0;
        for (int v = 0; v < 10; v++) {
            Model t = model.changed();
            t.owed[a][b] = v;
            set |= t.fits() ? 1 << v : 0;
        }
        return set;
    }

    private static int bound(Model model, int b) {
        int set = 0;
        for (int m = 0; m < model.masters; m++) {
            Model t = model.changed();
            t.boundTo[b] = m;
            set |= t.fits() ? 1 << m : 0;
        }
        return set;
    }

    private static int kinds(Model model, int b) {
        int set = 0;
        for (int kind = 0; kind < 3; kind++) {
            Model t = model.changed();
            t.kind[b] = kind;
            set |= t.fits() ? 1 << kind : 0;
        }
        return set;
    }

    private static final Pattern TEXT = textPattern();

    private static Pattern textPattern() {
        StringBuilder s = new StringBuilder();
        for (int masters = 2; masters <= 5; masters++) {
            s.append(masters > 2 ? "|" : "").append("j").append(masters);
            for (int a = 0; a < masters; a++) {
                s.append(",[0-9]{").append(a).append("}0[0-9]{").append(masters - 1 - a).append("}");
            }
            s.append("(;[bcd][0-").append(masters - 1).append("]){1,4}");
        }
        return Pattern.compile(s.toString());
    }

    /** A text that is spoilt at one place, or cut, or drawn out: the first fault is where no match can come any more. */
    private static void text() {
        StringBuilder s = new StringBuilder(Model.random(9).text());
        int place = RANDOM.nextInt(s.length());
        switch (RANDOM.nextInt(4)) {
            case 0:
                s.setLength(place);
                break;
            case 1:
                s.setCharAt(place, "j,;bcda0123456789 ".charAt(RANDOM.nextInt(18)));
                break;
            case 2:
                s.append(";c1");
                break;
            default:
                s.insert(place, s.charAt(RANDOM.nextInt(s.length())));
        }
        String text = s.toString();
        Matcher whole = TEXT.matcher(text);
        boolean taken = whole.matches();
        int want = taken ? text.length() - text.replace(";", "").length() : -100 - firstFault(text);
        CHECKS.due("town " + text, Checks.found(new SolsticeBoys(), text), want);
    }

    private static int firstFault(String text) {
        for (int length = 1; length <= text.length(); length++) {
            Matcher begun = TEXT.matcher(text.substring(0, length));
            if (!begun.matches() && !begun.hitEnd()) {
                return length - 1;
            }
        }
        return text.length();
    }
}
