import java.math.BigInteger;
import java.util.Arrays;
import java.util.Random;
import java.util.regex.Matcher;
import java.util.regex.Pattern;

/** A town as plain rows, reckoned by the most naive way there is: every solstice is lived through by one step. */
final class Model {
    private static final int NONE = -9;
    private static final Pattern TEXT = textPattern();

    int masters;
    int boys;
    int[][] owed;
    int[] kind;
    int[] boundTo;
    int[][] readings = new int[8][];
    int readingCount;

    static Model random(Random random, int mostPence) {
        Model t = new Model();
        t.masters = 2 + random.nextInt(4);
        t.boys = 1 + random.nextInt(4);
        t.owed = new int[t.masters][t.masters];
        for (int a = 0; a < t.masters; a++) {
            for (int b = 0; b < t.masters; b++) {
                t.owed[a][b] = a == b || random.nextInt(3) == 0 ? 0 : random.nextInt(mostPence + 1);
            }
        }
        t.kind = new int[t.boys];
        t.boundTo = new int[t.boys];
        for (int b = 0; b < t.boys; b++) {
            t.kind[b] = random.nextInt(3);
            t.boundTo[b] = random.nextInt(t.masters);
        }
        return t;
    }

    /** Of a text that has no fault. */
    static Model of(String text) {
        String[] boys = text.split(";");
        String[] rows = boys[0].split(",");
        Model t = new Model();
        t.masters = rows.length - 1;
        t.boys = boys.length - 1;
        t.owed = new int[t.masters][];
        for (int a = 0; a < t.masters; a++) {
            t.owed[a] = rows[a + 1].chars().map(Character::getNumericValue).toArray();
        }
        t.kind = new int[t.boys];
        t.boundTo = new int[t.boys];
        for (int b = 0; b < t.boys; b++) {
            t.kind[b] = "bcd".indexOf(boys[b + 1].charAt(0));
            t.boundTo[b] = Character.getNumericValue(boys[b + 1].charAt(1));
        }
        return t;
    }

    String text() {
        StringBuilder s = new StringBuilder("j").append(masters);
        for (int[] row : owed) {
            s.append(',');
            Arrays.stream(row).forEach(s::append);
        }
        for (int b = 0; b < boys; b++) {
            s.append(';').append("bcd".charAt(kind[b])).append(boundTo[b]);
        }
        return s.toString();
    }

    private Model changed() {
        Model t = new Model();
        t.masters = masters;
        t.boys = boys;
        t.owed = new int[masters][];
        for (int a = 0; a < masters; a++) {
            t.owed[a] = owed[a].clone();
        }
        t.kind = kind.clone();
        t.boundTo = boundTo.clone();
        t.readings = readings;
        t.readingCount = readingCount;
        return t;
    }

    int next(int m) {
        int most = Arrays.stream(owed[m]).max().getAsInt();
        if (most == 0) {
            return m;
        }
        int b = 0;
        while (owed[m][b] != most) {
            b++;
        }
        return b;
    }

    /** Behind n solstices: what he knows of each trade, and last with whom he is. */
    int[] behind(int b, int n) {
        int[] state = new int[masters + 1];
        state[masters] = boundTo[b];
        for (int k = 0; k < n; k++) {
            for (int trade = 0; trade < masters; trade++) {
                state[trade] = state[trade] - state[trade] / 3;
            }
            state[state[masters]] += new int[] {9, 12, 4}[kind[b]];
            state[masters] = next(state[masters]);
        }
        return state;
    }

    int where(int b, int n) {
        return behind(b, n)[masters];
    }

    int able(int n) {
        int set = 0;
        for (int b = 0; b < boys; b++) {
            int[] state = behind(b, n);
            set |= state[state[masters]] >= 9 ? 1 << state[masters] : 0;
        }
        return set;
    }

    int ring(int m) {
        Model from = changed();
        from.boundTo[0] = m;
        int set = 0;
        for (int n = 60; n < 90; n++) {
            set |= 1 << from.where(0, n);
        }
        return set;
    }

    int home(int b) {
        for (int n = 1; n < 30; n++) {
            if (where(b, n) == boundTo[b]) {
                return n;
            }
        }
        return NONE;
    }

    int never(int b) {
        int met = 0;
        for (int n = 0; n < 30; n++) {
            met |= 1 << where(b, n);
        }
        return (1 << masters) - 1 - met;
    }

    int[] forge(int b, int m, int n) {
        if (where(b, n) == m) {
            return new int[] {0, NONE, NONE};
        }
        for (int more = 1; more <= 9; more++) {
            for (int from = 0; from < masters; from++) {
                for (int to = 0; to < masters; to++) {
                    if (from != to && owed[from][to] + more <= 9) {
                        Model t = changed();
                        t.owed[from][to] += more;
                        if (t.where(b, n) == m) {
                            return new int[] {more, from, to};
                        }
                    }
                }
            }
        }
        return new int[] {NONE, NONE, NONE};
    }

    /** What he knew is -1 in a reading that says with whom he was. */
    int noted(int b, int n, int m, int known) {
        readings[readingCount] = new int[] {b, n, m, known};
        return readingCount++;
    }

    private boolean fits() {
        for (int k = 0; k < readingCount; k++) {
            int[] r = readings[k];
            int[] state = behind(r[0], r[1]);
            if (r[3] < 0 ? state[masters] != r[2] : state[r[2]] != r[3]) {
                return false;
            }
        }
        return true;
    }

    int debts(int a, int b) {
        int set = 0;
        for (int v = 0; v < 10; v++) {
            Model t = changed();
            t.owed[a][b] = v;
            set |= t.fits() ? 1 << v : 0;
        }
        return set;
    }

    int bound(int b) {
        int set = 0;
        for (int m = 0; m < masters; m++) {
            Model t = changed();
            t.boundTo[b] = m;
            set |= t.fits() ? 1 << m : 0;
        }
        return set;
    }

    int kinds(int b) {
        int set = 0;
        for (int one = 0; one < 3; one++) {
            Model t = changed();
            t.kind[b] = one;
            set |= t.fits() ? 1 << one : 0;
        }
        return set;
    }

    long[] odds(int b, int m, int n) {
        int there = share(this, 0, b, m, n);
        int all = 1 << masters;
        int divisor = BigInteger.valueOf(there).gcd(BigInteger.valueOf(all)).intValue();
        return new long[] {there / divisor, all / divisor};
    }

    private int share(Model paid, int master, int b, int m, int n) {
        if (master == masters) {
            return paid.where(b, n) == m ? 1 : 0;
        }
        Model t = paid.changed();
        t.owed[master][next(master)] = 0;
        return share(paid, master + 1, b, m, n) + share(t, master + 1, b, m, n);
    }

    private static Pattern textPattern() {
        StringBuilder s = new StringBuilder();
        for (int masters = 2; masters <= 5; masters++) {
            s.append(masters > 2 ? "|" : "").append("j").append(masters);
            for (int a = 0; a < masters; a++) {
                s.append(",[0-9]{").append(a).append("}0[0-9]{").append(masters - 1 - a).append("}");
            }
            s.append("(;[bcd][0-").append(masters - 1).append("]){1,4}");
        }
        return Pattern.compile(s.toString());
    }

    /** Where no text can come any more; -1: it is one. */
    static int firstFault(String text) {
        if (TEXT.matcher(text).matches()) {
            return -1;
        }
        for (int length = 1; length <= text.length(); length++) {
            Matcher begun = TEXT.matcher(text.substring(0, length));
            if (!begun.matches() && !begun.hitEnd()) {
                return length - 1;
            }
        }
        return text.length();
    }
}
