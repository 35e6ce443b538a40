import java.lang.reflect.Array;
import java.util.Objects;
import java.util.Set;

/** The whole object a second time, by Java's own means: rows are arrays, kinds are classes, faults are what is thrown. */
final class Whole {
    private static final int UNKNOWN = -1, OUTSIDE = -2, STATE = -3, FULL = -4, NONE = -9;
    private static final long LOST = Long.MIN_VALUE;
    private static final Set<String> NAMES_FAULTS = Set.of("town", "walk", "sheet", "put", "cell", "copy", "as");
    private static final Set<String> ANSWERS_LONG = Set.of("odds", "cell");

    private Model town = new Model();
    private final Object[] sheets = new Object[4];
    private int trace = 0;
    private int fault = 0;

    private static final class Refused extends RuntimeException {
        private static final long serialVersionUID = 1;
        final int refusal;

        Refused(int refusal) {
            this.refusal = refusal;
        }
    }

    private interface Called {
        Whole whole();

        int number();

        default int called() {
            whole().leave(4);
            return number();
        }
    }

    private static class Boy implements Called {
        private final Whole whole;
        private final int number;

        Boy(Whole whole, int number) {
            this.whole = whole;
            this.number = number;
        }

        @Override
        public Whole whole() {
            return whole;
        }

        @Override
        public int number() {
            return number;
        }

        int learns() {
            return 9;
        }

        int tells() {
            return tellsAsBoy();
        }

        final int tellsAsBoy() {
            whole.leave(1);
            return whole.town.boundTo[number];
        }
    }

    private static class Clever extends Boy {
        Clever(Whole whole, int number) {
            super(whole, number);
        }

        @Override
        int learns() {
            return super.learns() + 3;
        }

        @Override
        int tells() {
            whole().leave(2);
            return super.tells() + 100;
        }
    }

    private static final class Dunce extends Clever {
        Dunce(Whole whole, int number) {
            super(whole, number);
        }

        @Override
        int learns() {
            return new Boy(whole(), number()).learns() / 2;
        }

        @Override
        int tells() {
            whole().leave(3);
            return super.tells() + tellsAsBoy();
        }

        @Override
        public int called() {
            whole().leave(5);
            return 20;
        }
    }

    Model town() {
        return town;
    }

    /** -1: it has nothing. */
    int laneOf(int k) {
        return sheets[k] instanceof byte[] ? 0 : sheets[k] instanceof short[] ? 1 : sheets[k] == null ? -1 : 2;
    }

    int lengthOf(int k) {
        return sheets[k] == null ? 0 : Array.getLength(sheets[k]);
    }

    /** 0, where there is no such cell. */
    int at(int k, int i) {
        return i < lengthOf(k) ? Array.getInt(sheets[k], i) : 0;
    }

    long answer(String name, int... a) {
        boolean namesFaults = NAMES_FAULTS.contains(name);
        long answer = LOST;
        int refusal = 0;
        int came = 0;
        try {
            answer = taken(name, a);
        } catch (Refused refused) {
            refusal = refused.refusal;
        } catch (RuntimeException thrown) {
            if (!namesFaults) {
                throw thrown;
            }
            came = faultOf(thrown);
        }
        if (namesFaults) {
            fault = came;
        }
        if (refusal == 0 && came == 0) {
            return answer;
        }
        return ANSWERS_LONG.contains(name) ? LOST : came > 0 ? -10 - came : refusal;
    }

    private static int faultOf(RuntimeException thrown) {
        if (thrown instanceof NullPointerException) {
            return 1;
        }
        if (thrown instanceof ClassCastException || thrown instanceof ArrayStoreException) {
            return 2;
        }
        if (thrown instanceof IndexOutOfBoundsException) {
            return 3;
        }
        if (thrown instanceof NegativeArraySizeException) {
            return 4;
        }
        throw thrown;
    }

    private long taken(String name, int... a) {
        switch (name) {
            case "town": return town(a[0], a[1], a[2], a[3]);
            case "ofBoy": return ofBoy(a[0], a[1]);
            case "owes": return town.owed[master(a[0])][master(a[1])];
            case "owe": return owe(a[0], a[1], a[2]);
            case "bind": return bind(a[0], a[1]);
            case "next": return town.next(master(a[0]));
            case "where": return town.where(boy(a[0]), within(a[1], 60));
            case "knows": return knows(a[0], a[1], a[2]);
            case "able": return able(a[0]);
            case "ring": return town.ring(master(a[0]));
            case "home": return town.home(boy(a[0]));
            case "never": return town.never(boy(a[0]));
            case "walk": return walk(a[0], a[1], a[2], a[3], a[4]);
            case "forge": return forge(a[0], a[1], a[2], a[3]);
            case "reading": return reading(a[0], a[1], a[2]);
            case "exam": return exam(a[0], a[1], a[2], a[3]);
            case "back": return town.readingCount -= within(a[0], town.readingCount);
            case "debts": return town.debts(master(a[0]), another(a[0], a[1]));
            case "bound": return town.bound(boy(a[0]));
            case "kinds": return town.kinds(boy(a[0]));
            case "odds": return odds(a[0], a[1], a[2], a[3]);
            default: return takenOfParts(name, a);
        }
    }

    private long takenOfParts(String name, int... a) {
        switch (name) {
            case "sheet": return sheet(a[0], a[1], a[2]);
            case "lose": return lose(a[0]);
            case "put": return put(a[0], a[1], a[2]);
            case "cell": return cells(sheetNumber(a[0]), within(a[2], 2), a[1], 1)[0];
            case "copy": return copy(a[0], a[1], a[2], a[3], a[4]);
            case "tell": return one(a[0]).tells();
            case "call": return one(a[0]).called();
            case "as": return as(a[0], a[1]);
            case "trace": return trace;
            case "fault": return fault;
            case "many": return new int[] {town.boys, town.masters, town.readingCount}[within(a[0], 2)];
            default: throw new IllegalArgumentException(name);
        }
    }

    private void leave(int body) {
        trace = 31 * trace + body;
    }

    private static int below(int number, int end) {
        if (number < 0 || number >= end) {
            throw new Refused(UNKNOWN);
        }
        return number;
    }

    private int boy(int b) {
        return below(b, town.boys);
    }

    private int master(int m) {
        return below(m, town.masters);
    }

    private int another(int a, int b) {
        if (a == b) {
            throw new Refused(UNKNOWN);
        }
        return master(b);
    }

    private static int sheetNumber(int k) {
        return below(k, 4);
    }

    private static int within(int number, int most) {
        if (number < 0 || number > most) {
            throw new Refused(OUTSIDE);
        }
        return number;
    }

    private Boy one(int b) {
        switch (town.kind == null ? 0 : town.kind[boy(b)]) {
            case 1: return new Clever(this, boy(b));
            case 2: return new Dunce(this, boy(b));
            default: return new Boy(this, boy(b));
        }
    }

    /** A length of a new row that is below 0 is what the machine throws at, ahead of a place. */
    private int[] cells(int k, int lane, int i, int n) {
        Object row = lane == 0 ? (byte[]) sheets[k] : lane == 1 ? (short[]) sheets[k] : (int[]) sheets[k];
        int length = Array.getLength(row);
        int[] cells = new int[Math.min(n, 61)];
        Objects.checkFromIndexSize(i, n, length);
        for (int step = 0; step < n; step++) {
            cells[step] = Array.getInt(row, i + step);
        }
        return cells;
    }

    private int town(int sheet, int lane, int i, int n) {
        int[] cells = cells(sheetNumber(sheet), within(lane, 2), i, n);
        StringBuilder text = new StringBuilder();
        for (int cell : cells) {
            text.append(cell >= 0 && cell < 128 ? (char) cell : '?');
        }
        int firstFault = Model.firstFault(text.toString());
        if (firstFault >= 0) {
            return -100 - firstFault;
        }
        town = Model.of(text.toString());
        return town.boys;
    }

    private int ofBoy(int b, int what) {
        Boy boy = one(b);
        return new int[] {boy instanceof Dunce ? 2 : boy instanceof Clever ? 1 : 0, town.boundTo[b], boy.learns()}[within(what, 2)];
    }

    private int owe(int a, int b, int v) {
        int before = town.owed[master(a)][another(a, b)];
        town.owed[a][b] = within(v, 9);
        return before;
    }

    private int bind(int b, int m) {
        boy(b);
        master(m);
        int before = town.boundTo[b];
        town.boundTo[b] = m;
        return before;
    }

    private int knows(int b, int m, int n) {
        boy(b);
        master(m);
        return town.behind(b, within(n, 60))[m];
    }

    private int able(int n) {
        within(n, 60);
        if (town.masters == 0) {
            throw new Refused(STATE);
        }
        return town.able(n);
    }

    private int walk(int b, int sheet, int lane, int i, int n) {
        boy(b);
        sheetNumber(sheet);
        within(lane, 2);
        int[] told = cells(sheet, lane, i, within(n, 40));
        for (int m : told) {
            master(m);
        }
        for (int step = 0; step < n; step++) {
            if (told[step] != town.where(b, step)) {
                return step;
            }
        }
        return NONE;
    }

    private int forge(int b, int m, int n, int what) {
        boy(b);
        master(m);
        within(n, 20);
        within(what, 2);
        return town.forge(b, m, n)[what];
    }

    private int reading(int b, int n, int m) {
        boy(b);
        master(m);
        within(n, 20);
        return noted(b, n, m, -1);
    }

    private int exam(int b, int n, int m, int v) {
        boy(b);
        master(m);
        within(n, 20);
        within(v, 40);
        return noted(b, n, m, v);
    }

    private int noted(int b, int n, int m, int v) {
        if (town.readingCount == 8) {
            throw new Refused(FULL);
        }
        return town.noted(b, n, m, v);
    }

    private long odds(int b, int m, int n, int which) {
        boy(b);
        master(m);
        within(n, 20);
        within(which, 1);
        return town.odds(b, m, n)[which];
    }

    private int sheet(int k, int lane, int n) {
        sheetNumber(k);
        within(lane, 2);
        if (n > 60) {
            throw new Refused(OUTSIDE);
        }
        sheets[k] = lane == 0 ? new byte[n] : lane == 1 ? new short[n] : new int[n];
        return 1;
    }

    private int lose(int k) {
        int had = sheets[sheetNumber(k)] == null ? 0 : 1;
        sheets[k] = null;
        return had;
    }

    private int put(int k, int i, int v) {
        Object row = sheets[sheetNumber(k)];
        if (row instanceof byte[] bytes) {
            bytes[i] = (byte) v;
        } else if (row instanceof short[] shorts) {
            shorts[i] = (short) v;
        } else {
            ((int[]) row)[i] = v;
        }
        return 1;
    }

    private int copy(int k, int i, int other, int j, int n) {
        System.arraycopy(sheets[sheetNumber(k)], i, sheets[sheetNumber(other)], j, n);
        return n;
    }

    private int as(int b, int kind) {
        Boy boy = one(b);
        Boy taken = within(kind, 2) == 2 ? (Dunce) boy : kind == 1 ? (Clever) boy : boy;
        return taken == boy ? 1 : 0;
    }
}
