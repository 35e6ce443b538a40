import java.util.function.Supplier;

/** The ranges that each call names, both ends and beyond; refusals, their order, and that they change nothing. */
final class RefusalEdges {
    private static final int UNKNOWN = SolsticeBoys.UNKNOWN, OUTSIDE = SolsticeBoys.OUTSIDE;
    private static final int STATE = SolsticeBoys.STATE, FULL = SolsticeBoys.FULL;
    private static final long LOST = SolsticeBoys.LOST;

    private final Edges edges;
    private final Supplier<SolsticeBoys> make;
    private final int lastMaster;
    private final int lastBoy;

    private RefusalEdges(Edges edges, String text, int masters, int boys) {
        this.edges = edges;
        make = () -> Edges.lived(text);
        lastMaster = masters - 1;
        lastBoy = boys - 1;
    }

    static void run(Edges edges) {
        RefusalEdges[] towns = {new RefusalEdges(edges, Edges.SMALL, 2, 1),
            new RefusalEdges(edges, Checks.FOUR, 4, 3), new RefusalEdges(edges, Edges.LARGE, 5, 4)};
        for (RefusalEdges town : towns) {
            town.ofTheTown();
            town.ofSolstices();
            town.ofWalksAndNotes();
            town.ofReadings();
            town.ofDebts();
            town.ofParts();
        }
        ofSheets(edges);
        withoutATown(edges);
        order(edges);
        fullIsLast(edges);
    }

    private void boys(String name, int... args) {
        edges.range(make, UNKNOWN, 0, 0, lastBoy, name, args);
    }

    private void masters(int place, String name, int... args) {
        edges.range(make, UNKNOWN, place, 0, lastMaster, name, args);
    }

    private void numbers(int place, int most, String name, int... args) {
        edges.range(make, OUTSIDE, place, 0, most, name, args);
    }

    private void ofTheTown() {
        edges.says(2, "UNKNOWN; OUTSIDE: lane;");
        edges.range(make, UNKNOWN, 0, 0, 3, "town", 0, 0, 0, 0);
        numbers(1, 2, "town", 0, 0, 0, 0);
        edges.says(3, "Of a BOY: 0 kind, 1 the MASTER to whom he is bound, 2 what he LEARNS in half a year. UNKNOWN; OUTSIDE.");
        boys("ofBoy", 0, 0);
        numbers(1, 2, "ofBoy", 0, 0);
        edges.says(6, "A BOY is bound to a MASTER: to whom he was. UNKNOWN.");
        boys("bind", 0, 0);
        masters(1, "bind", 0, 0);
    }

    private void ofSolstices() {
        edges.says(7, "UNKNOWN.");
        masters(0, "next", 0);
        edges.says(8, "behind n SOLSTICES (0 .. 60). UNKNOWN; OUTSIDE.");
        boys("where", 0, 0);
        numbers(1, 60, "where", 0, 0);
        edges.says(9, "behind n SOLSTICES (0 .. 60). UNKNOWN: BOY, MASTER; OUTSIDE.");
        boys("knows", 0, 0, 0);
        masters(1, "knows", 0, 0, 0);
        numbers(2, 60, "knows", 0, 0, 0);
        edges.says(10, "OUTSIDE: n (0 .. 60)");
        numbers(0, 60, "able", 0);
        edges.says(11, "UNKNOWN.");
        masters(0, "ring", 0);
        edges.says(12, "UNKNOWN.");
        boys("home", 0);
        edges.says(13, "UNKNOWN.");
        boys("never", 0);
    }

    private void ofWalksAndNotes() {
        edges.says(14, "UNKNOWN: BOY, SHEET; OUTSIDE: lane, n (0 .. 40);");
        boys("walk", 0, 0, 0, 0, 0);
        edges.range(make, UNKNOWN, 1, 0, 3, "walk", 0, 0, 0, 0, 0);
        numbers(2, 2, "walk", 0, 0, 0, 0, 0);
        numbers(4, 40, "walk", 0, 0, 0, 0, 0);
        edges.says(15, "UNKNOWN: BOY, MASTER; OUTSIDE: n (0 .. 20), what.");
        boys("forge", 0, 0, 0, 0);
        masters(1, "forge", 0, 0, 0, 0);
        numbers(2, 20, "forge", 0, 0, 0, 0);
        numbers(3, 2, "forge", 0, 0, 0, 0);
    }

    private void ofReadings() {
        edges.says(16, "UNKNOWN: BOY, MASTER; OUTSIDE: n (0 .. 20);");
        boys("reading", 0, 0, 0);
        masters(2, "reading", 0, 0, 0);
        numbers(1, 20, "reading", 0, 0, 0);
        edges.says(17, "UNKNOWN: BOY, MASTER; OUTSIDE: n (0 .. 20), v (0 .. 40);");
        boys("exam", 0, 0, 0, 0);
        masters(2, "exam", 0, 0, 0, 0);
        numbers(1, 20, "exam", 0, 0, 0, 0);
        numbers(3, 40, "exam", 0, 0, 0, 0);
        edges.says(18, "The last k READINGS (0 .. as many as there are) are taken back: how many are left. OUTSIDE.");
        numbers(0, 3, "back", 0);
        edges.says(20, "UNKNOWN.");
        boys("bound", 0);
        edges.says(21, "UNKNOWN.");
        boys("kinds", 0);
        edges.says(22, "LOST: UNKNOWN: BOY, MASTER; OUTSIDE: n (0 .. 20), which.");
        edges.range(make, LOST, 0, 0, lastBoy, "odds", 0, 0, 0, 0);
        edges.range(make, LOST, 1, 0, lastMaster, "odds", 0, 0, 0, 0);
        edges.range(make, LOST, 2, 0, 20, "odds", 0, 0, 0, 0);
        edges.range(make, LOST, 3, 0, 1, "odds", 0, 0, 0, 0);
    }

    /** A debt has two masters, and none owes to himself: each pair, so that neither hides the other. */
    private void ofDebts() {
        int[] numbers = {Edges.LEAST_INT, -1, 0, 1, lastMaster, lastMaster + 1, Edges.MOST_INT};
        for (int a : numbers) {
            for (int b : numbers) {
                boolean two = a >= 0 && a <= lastMaster && b >= 0 && b <= lastMaster;
                if (!two) {
                    edges.says(4, "PENCE that a OWES to b. UNKNOWN.");
                    edges.stays(make, UNKNOWN, "owes", a, b);
                }
                if (!two || a == b) {
                    edges.says(5, "UNKNOWN: a, b, one to himself;");
                    edges.stays(make, UNKNOWN, "owe", a, b, 0);
                    edges.says(19, "UNKNOWN: a, b, one to himself.");
                    edges.stays(make, UNKNOWN, "debts", a, b);
                } else {
                    edges.says(5, "PENCE that a OWES to b become v (0 .. 9)");
                    edges.range(make, OUTSIDE, 2, 0, 9, "owe", a, b, 0);
                    edges.says(19, "DEBTS of a to b, as a set.");
                    edges.due(Edges.told("debts", a, b) + " is not refused", make.get().debts(a, b) < 0 ? 1 : 0, 0);
                }
            }
        }
        edges.says(4, "PENCE that a OWES to b.");
        edges.answers(make.get(), 0, "owes", lastMaster, lastMaster);
    }

    private void ofParts() {
        edges.says(28, "UNKNOWN.");
        boys("tell", 0);
        edges.says(29, "UNKNOWN.");
        boys("call", 0);
        edges.says(30, "UNKNOWN; OUTSIDE;");
        boys("as", 0, 0);
        numbers(1, 2, "as", 0, 0);
        edges.says(33, "0 BOYS, 1 MASTERS, 2 READINGS (0 all without a TOWN). OUTSIDE.");
        numbers(0, 2, "many", 0);
        edges.answers(make.get(), lastBoy + 1, "many", 0);
        edges.answers(make.get(), lastMaster + 1, "many", 1);
        edges.answers(make.get(), 3, "many", 2);
    }

    private static void ofSheets(Edges edges) {
        Supplier<SolsticeBoys> make = Edges::lived;
        edges.says(23, "UNKNOWN; OUTSIDE: lane, n above 60;");
        edges.range(make, UNKNOWN, 0, 0, 3, "sheet", 0, 0, 0);
        edges.range(make, OUTSIDE, 1, 0, 2, "sheet", 0, 0, 0);
        edges.answers(make.get(), 1, "sheet", 0, 0, 60);
        edges.stays(make, OUTSIDE, "sheet", 0, 0, 61);
        edges.stays(make, OUTSIDE, "sheet", 0, 0, Edges.MOST_INT);
        edges.says(24, "UNKNOWN.");
        edges.range(make, UNKNOWN, 0, 0, 3, "lose", 0);
        edges.says(25, "UNKNOWN; NULL; INDEX.");
        edges.range(make, UNKNOWN, 0, 0, 3, "put", 0, 0, 0);
        edges.says(26, "LOST: UNKNOWN, OUTSIDE: lane;");
        for (int beyond : new int[] {-1, 4, Edges.LEAST_INT, Edges.MOST_INT}) {
            edges.stays(make, LOST, "cell", beyond, 0, 0);
        }
        for (int beyond : new int[] {-1, 3, Edges.LEAST_INT, Edges.MOST_INT}) {
            edges.stays(make, LOST, "cell", 0, 0, beyond);
        }
        edges.says(27, "UNKNOWN; FAULTS");
        edges.range(make, UNKNOWN, 0, 0, 3, "copy", 0, 0, 0, 0, 0);
        edges.range(make, UNKNOWN, 2, 0, 3, "copy", 0, 0, 0, 0, 0);
    }

    private static void withoutATown(Edges edges) {
        Supplier<SolsticeBoys> make = SolsticeBoys::new;
        edges.says(1, "No TOWN (no MASTERS, BOYS), SHEETS have nothing.");
        for (String name : new String[] {"next", "ring", "home", "never", "bound", "kinds", "tell", "call"}) {
            edges.stays(make, UNKNOWN, name, 0);
        }
        for (String name : new String[] {"ofBoy", "owes", "bind", "where", "as"}) {
            edges.stays(make, UNKNOWN, name, 0, 0);
        }
        edges.stays(make, UNKNOWN, "debts", 0, 1);
        edges.stays(make, UNKNOWN, "owe", 0, 1, 0);
        edges.stays(make, UNKNOWN, "knows", 0, 0, 0);
        edges.stays(make, UNKNOWN, "reading", 0, 0, 0);
        edges.stays(make, UNKNOWN, "exam", 0, 0, 0, 0);
        edges.stays(make, UNKNOWN, "forge", 0, 0, 0, 0);
        edges.stays(make, UNKNOWN, "walk", 0, 0, 0, 0, 0);
        edges.stays(make, LOST, "odds", 0, 0, 0, 0);
        for (int k = 0; k < 4; k++) {
            edges.answers(new SolsticeBoys(), 0, "lose", k);
            edges.faulted(make, Edges.NULL_FAULT, "put", k, 0, 0);
            edges.faulted(make, Edges.NULL_FAULT, "cell", k, 0, 0);
            edges.faulted(make, Edges.NULL_FAULT, "town", k, 0, 0, 0);
        }
        edges.says(10, "STATE: there is no TOWN.");
        edges.stays(make, STATE, "able", 0);
        edges.stays(make, STATE, "able", 60);
        edges.stays(make, OUTSIDE, "able", 61);
        edges.stays(make, OUTSIDE, "able", -1);
        edges.says(18, "(0 .. as many as there are)");
        edges.answers(new SolsticeBoys(), 0, "back", 0);
        edges.stays(make, OUTSIDE, "back", 1);
        edges.says(33, "(0 all without a TOWN)");
        for (int what = 0; what < 3; what++) {
            edges.answers(new SolsticeBoys(), 0, "many", what);
        }
        edges.stays(make, OUTSIDE, "many", 3);
    }

    private static void order(Edges edges) {
        Supplier<SolsticeBoys> make = Edges::lived;
        edges.says(Edges.TERMS, "REFUSALS, in the order in which a call's line tells them");
        edges.stays(make, UNKNOWN, "town", 4, 3, -1, -1);
        edges.stays(make, UNKNOWN, "ofBoy", 3, 3);
        edges.stays(make, UNKNOWN, "owe", 4, 0, 10);
        edges.stays(make, UNKNOWN, "owe", 0, 4, -1);
        edges.stays(make, UNKNOWN, "owe", 1, 1, 10);
        edges.stays(make, UNKNOWN, "where", 3, 61);
        edges.stays(make, UNKNOWN, "knows", 3, 0, 61);
        edges.stays(make, UNKNOWN, "knows", 0, 4, -1);
        edges.stays(make, UNKNOWN, "walk", 3, 0, 3, 0, 41);
        edges.stays(make, UNKNOWN, "walk", 0, 4, 3, 0, 41);
        edges.stays(make, UNKNOWN, "forge", 3, 0, 21, 3);
        edges.stays(make, UNKNOWN, "forge", 0, 4, 21, 3);
        edges.stays(make, UNKNOWN, "reading", 3, 21, 0);
        edges.stays(make, UNKNOWN, "reading", 0, 21, 4);
        edges.stays(make, UNKNOWN, "exam", 3, 21, 0, 41);
        edges.stays(make, UNKNOWN, "exam", 0, 21, 4, 41);
        edges.stays(make, UNKNOWN, "sheet", 4, 3, 61);
        edges.stays(make, UNKNOWN, "sheet", 4, 0, -1);
        edges.stays(make, UNKNOWN, "put", 4, -1, 0);
        edges.stays(make, UNKNOWN, "copy", 3, -1, 4, -1, -1);
        edges.stays(make, UNKNOWN, "copy", 4, -1, 3, -1, -1);
        edges.stays(make, UNKNOWN, "as", 3, 3);
        edges.stays(make, OUTSIDE, "town", 3, 3, -1, -1);
        edges.stays(make, OUTSIDE, "town", 0, 3, -1, -1);
        edges.stays(make, OUTSIDE, "walk", 0, 3, 3, -1, 0);
        edges.stays(make, OUTSIDE, "walk", 0, 3, 0, -1, 41);
        edges.stays(make, OUTSIDE, "walk", 0, 0, 1, 0, -1);
        edges.stays(make, OUTSIDE, "sheet", 0, 3, -1);
        edges.stays(make, LOST, "cell", 4, 0, 3);
        edges.stays(make, LOST, "cell", 3, 0, 3);
        edges.stays(make, LOST, "cell", 0, -1, 3);
    }

    private static void fullIsLast(Edges edges) {
        Supplier<SolsticeBoys> make = () -> withReadings(8);
        edges.says(Edges.TERMS, "READINGS, 8 at most, numbered by how many there are");
        for (int count = 0; count < 8; count++) {
            edges.answers(withReadings(count), count, "reading", 0, 0, 0);
            edges.answers(withReadings(count), count, "exam", 0, 0, 0, 0);
        }
        edges.says(16, "FULL.");
        edges.stays(make, FULL, "reading", 0, 0, 0);
        edges.stays(make, OUTSIDE, "reading", 0, 21, 0);
        edges.stays(make, OUTSIDE, "reading", 0, -1, 0);
        edges.stays(make, UNKNOWN, "reading", 3, 0, 0);
        edges.stays(make, UNKNOWN, "reading", 0, 0, 4);
        edges.says(17, "FULL.");
        edges.stays(make, FULL, "exam", 0, 0, 0, 0);
        edges.stays(make, OUTSIDE, "exam", 0, 21, 0, 0);
        edges.stays(make, OUTSIDE, "exam", 0, 0, 0, 41);
        edges.stays(make, UNKNOWN, "exam", 3, 0, 0, 0);
        edges.stays(make, UNKNOWN, "exam", 0, 0, 4, 0);
        edges.says(18, "(0 .. as many as there are)");
        edges.stays(make, OUTSIDE, "back", 9);
        for (int k = 0; k <= 8; k++) {
            edges.answers(withReadings(8), 8 - k, "back", k);
        }
    }

    private static SolsticeBoys withReadings(int count) {
        SolsticeBoys x = Checks.townOf(Checks.FOUR);
        for (int k = 0; k < count; k++) {
            x.exam(0, k, 3, 0);
        }
        return x;
    }
}
