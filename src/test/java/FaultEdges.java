import java.util.function.Supplier;

/** FAULTS: which of them a call comes to first, what it answers, and that nothing but fault() is changed. */
final class FaultEdges {
    private static final int NULL_FAULT = Edges.NULL_FAULT, CAST = Edges.CAST, INDEX = Edges.INDEX, SIZE = Edges.SIZE;
    private static final int LEAST = Edges.LEAST_INT, MOST = Edges.MOST_INT;
    /** Sheet 0 has 3 bytes, 1 has 2 shorts, 2 has no ints, 3 has nothing. */
    private static final Supplier<SolsticeBoys> MAKE = Edges::lived;
    /** Where cells are taken from 3 bytes: i, n that are not all there. */
    private static final int[][] NOT_THERE = {{0, 4}, {1, 3}, {2, 2}, {3, 1}, {4, 0}, {-1, 0}, {-1, 1}, {-1, 4}, {-1, 5},
        {LEAST, 0}, {LEAST, 40}, {MOST, 0}, {MOST, 1}, {MOST, 40}, {60, 0}, {59, 1}};

    private FaultEdges() {
    }

    static void run(Edges edges) {
        ofTown(edges);
        ofWalk(edges);
        ofSheet(edges);
        ofPut(edges);
        ofCell(edges);
        ofCopy(edges);
        ofCopyIndex(edges);
        ofAs(edges);
        told(edges);
    }

    private static void ofTown(Edges edges) {
        edges.says(2, "FAULTS CAST (nothing is no CAST), NULL, SIZE: n is below 0, INDEX: not all cells are there; -100 less it.");
        for (int lane = 0; lane < 3; lane++) {
            edges.faulted(MAKE, NULL_FAULT, "town", 3, lane, 0, 0);
            edges.faulted(MAKE, NULL_FAULT, "town", 3, lane, -1, -1);
        }
        for (int[] unlike : new int[][] {{0, 1}, {0, 2}, {1, 0}, {1, 2}, {2, 0}, {2, 1}}) {
            edges.faulted(MAKE, CAST, "town", unlike[0], unlike[1], 0, 0);
            edges.faulted(MAKE, CAST, "town", unlike[0], unlike[1], -1, -1);
        }
        for (int n : new int[] {-1, LEAST}) {
            edges.faulted(MAKE, SIZE, "town", 0, 0, 0, n);
            edges.faulted(MAKE, SIZE, "town", 0, 0, -1, n);
            edges.faulted(MAKE, SIZE, "town", 0, 0, 4, n);
            edges.faulted(MAKE, SIZE, "town", 2, 2, MOST, n);
        }
        for (int[] cells : NOT_THERE) {
            edges.faulted(MAKE, INDEX, "town", 0, 0, cells[0], cells[1]);
        }
        edges.faulted(MAKE, INDEX, "town", 0, 0, 1, MOST);
        edges.faulted(MAKE, INDEX, "town", 0, 0, MOST, MOST);
        edges.says(Edges.TERMS, "i is not 0 .. how many there are, if none of them is taken, too");
        edges.faulted(MAKE, INDEX, "town", 2, 2, 0, 1);
        edges.faulted(MAKE, INDEX, "town", 2, 2, 1, 0);
        edges.faulted(MAKE, INDEX, "town", 2, 2, -1, 0);
        for (int i = 0; i <= 3; i++) {
            edges.stays(MAKE, -100, "town", 0, 0, i, 0);
        }
        edges.stays(MAKE, -100, "town", 2, 2, 0, 0);
    }

    private static void ofWalk(Edges edges) {
        edges.says(14, "FAULTS CAST, NULL, INDEX; UNKNOWN: a cell is no MASTER.");
        for (int lane = 0; lane < 3; lane++) {
            edges.faulted(MAKE, NULL_FAULT, "walk", 0, 3, lane, -1, 1);
        }
        for (int[] unlike : new int[][] {{0, 1}, {0, 2}, {1, 0}, {1, 2}, {2, 0}, {2, 1}}) {
            edges.faulted(MAKE, CAST, "walk", 0, unlike[0], unlike[1], 0, 0);
            edges.faulted(MAKE, CAST, "walk", 0, unlike[0], unlike[1], -1, 1);
        }
        for (int[] cells : NOT_THERE) {
            edges.faulted(MAKE, INDEX, "walk", 0, 0, 0, cells[0], cells[1]);
        }
        // Of the two shorts neither is a master: the faults come ahead of that refusal.
        edges.stays(MAKE, SolsticeBoys.UNKNOWN, "walk", 0, 1, 1, 0, 2);
        edges.stays(MAKE, SolsticeBoys.UNKNOWN, "walk", 0, 1, 1, 1, 1);
        edges.faulted(MAKE, INDEX, "walk", 0, 1, 1, 0, 3);
        edges.faulted(MAKE, CAST, "walk", 0, 1, 2, 0, 2);
        edges.says(Edges.TERMS, "i is not 0 .. how many there are, if none of them is taken, too");
        edges.faulted(MAKE, INDEX, "walk", 0, 2, 2, 1, 0);
        edges.faulted(MAKE, INDEX, "walk", 0, 2, 2, -1, 0);
        for (int i = 0; i <= 3; i++) {
            edges.stays(MAKE, SolsticeBoys.NONE, "walk", 0, 0, 0, i, 0);
        }
        edges.stays(MAKE, SolsticeBoys.NONE, "walk", 0, 2, 2, 0, 0);
    }

    private static void ofSheet(Edges edges) {
        edges.says(23, "SIZE.");
        for (int k = 0; k < 4; k++) {
            edges.faulted(MAKE, SIZE, "sheet", k, 0, -1);
            edges.faulted(MAKE, SIZE, "sheet", k, 2, LEAST);
            edges.answers(MAKE.get(), 1, "sheet", k, 1, 0);
        }
    }

    private static void ofPut(Edges edges) {
        edges.says(25, "NULL; INDEX.");
        edges.faulted(MAKE, NULL_FAULT, "put", 3, 0, 0);
        edges.faulted(MAKE, NULL_FAULT, "put", 3, -1, 0);
        for (int i : new int[] {-1, 3, 59, 60, LEAST, MOST}) {
            edges.faulted(MAKE, INDEX, "put", 0, i, 5);
        }
        edges.faulted(MAKE, INDEX, "put", 2, 0, 5);
        edges.answers(MAKE.get(), 1, "put", 0, 0, 5);
        edges.answers(MAKE.get(), 1, "put", 0, 2, 5);
    }

    private static void ofCell(Edges edges) {
        edges.says(26, "FAULTS CAST (nothing is no CAST), NULL, INDEX.");
        for (int lane = 0; lane < 3; lane++) {
            edges.faulted(MAKE, NULL_FAULT, "cell", 3, 0, lane);
            edges.faulted(MAKE, NULL_FAULT, "cell", 3, -1, lane);
        }
        for (int[] unlike : new int[][] {{0, 1}, {0, 2}, {1, 0}, {1, 2}, {2, 0}, {2, 1}}) {
            edges.faulted(MAKE, CAST, "cell", unlike[0], 0, unlike[1]);
            edges.faulted(MAKE, CAST, "cell", unlike[0], -1, unlike[1]);
        }
        for (int i : new int[] {-1, 3, 59, 60, LEAST, MOST}) {
            edges.faulted(MAKE, INDEX, "cell", 0, i, 0);
        }
        edges.faulted(MAKE, INDEX, "cell", 2, 0, 2);
        edges.answers(MAKE.get(), 0, "cell", 0, 0, 0);
        edges.answers(MAKE.get(), 1, "cell", 0, 2, 0);
        edges.answers(MAKE.get(), -7, "cell", 1, 1, 1);
    }

    private static void ofCopy(Edges edges) {
        edges.says(27, "FAULTS NULL (the first, the other), CAST (unlike LANES), INDEX: i, j, n below 0 or beyond.");
        for (int k = 0; k < 4; k++) {
            edges.faulted(MAKE, NULL_FAULT, "copy", 3, 0, k, 0, 0);
            edges.faulted(MAKE, NULL_FAULT, "copy", k, 0, 3, 0, 0);
            edges.faulted(MAKE, NULL_FAULT, "copy", 3, -1, k, -1, -1);
            edges.faulted(MAKE, NULL_FAULT, "copy", k, -1, 3, -1, -1);
        }
        for (int[] unlike : new int[][] {{0, 1}, {0, 2}, {1, 0}, {1, 2}, {2, 0}, {2, 1}}) {
            edges.faulted(MAKE, CAST, "copy", unlike[0], 0, unlike[1], 0, 0);
            edges.faulted(MAKE, CAST, "copy", unlike[0], -1, unlike[1], -1, -1);
        }
    }

    /** From 3 bytes to 5, and from 5 to 3: so that what is beyond the one is not beyond the other. */
    private static void ofCopyIndex(Edges edges) {
        edges.says(27, "INDEX: i, j, n below 0 or beyond.");
        Supplier<SolsticeBoys> make = () -> {
            SolsticeBoys x = Edges.lived();
            Checks.writeNumbers(x, 1, 0, 5, 6, 7, 8, 9);
            return x;
        };
        for (int[] cells : NOT_THERE) {
            edges.faulted(make, INDEX, "copy", 0, cells[0], 1, 0, cells[1]);
            edges.faulted(make, INDEX, "copy", 1, 0, 0, cells[0], cells[1]);
            edges.faulted(make, INDEX, "copy", 0, cells[0], 0, 0, cells[1]);
        }
        for (int n : new int[] {-1, LEAST, LEAST + 1, MOST}) {
            edges.faulted(make, INDEX, "copy", 0, 0, 1, 0, n);
            edges.faulted(make, INDEX, "copy", 1, 1, 0, 1, n);
            edges.faulted(make, INDEX, "copy", 0, 3, 0, 3, n);
        }
        edges.faulted(make, INDEX, "copy", 0, MOST, 1, MOST, MOST);
        edges.faulted(make, INDEX, "copy", 0, LEAST, 1, LEAST, LEAST);
        edges.faulted(make, INDEX, "copy", 2, 0, 2, 0, 1);
        edges.faulted(make, INDEX, "copy", 2, 1, 2, 0, 0);
        edges.faulted(make, INDEX, "copy", 2, 0, 2, 1, 0);
        edges.answers(make.get(), 0, "copy", 2, 0, 2, 0, 0);
        edges.answers(make.get(), 0, "copy", 0, 3, 1, 5, 0);
        edges.answers(make.get(), 3, "copy", 0, 0, 1, 2, 3);
        edges.answers(make.get(), 1, "copy", 1, 4, 0, 2, 1);
    }

    private static void ofAs(Edges edges) {
        edges.says(30, "CAST: he is none (each is a BOY, too; a DUNCE is a CLEVER one).");
        edges.faulted(MAKE, CAST, "as", 0, 1);
        edges.faulted(MAKE, CAST, "as", 0, 2);
        edges.faulted(MAKE, CAST, "as", 1, 2);
        for (int[] one : new int[][] {{0, 0}, {1, 0}, {1, 1}, {2, 0}, {2, 1}, {2, 2}}) {
            SolsticeBoys x = MAKE.get();
            x.as(0, 2);
            edges.answers(x, 1, "as", one[0], one[1]);
            edges.due("fault() behind it", x.fault(), 0);
        }
    }

    private static void told(Edges edges) {
        edges.says(32, "0: it came to none, or was refused (0 ahead of any).");
        edges.due("ahead of any", new SolsticeBoys().fault(), 0);
        SolsticeBoys untouched = new SolsticeBoys();
        untouched.many(0);
        untouched.lose(0);
        edges.due("ahead of any that names one", untouched.fault(), 0);
        int[][] taken = {{0, 0, 0, 0}, {0, 0, 0, 0, 0}, {0, 0, 0}, {0, 0, 0}, {0, 0, 0}, {0, 0, 0, 0, 0}, {0, 0}};
        String[] names = {"town", "walk", "sheet", "put", "cell", "copy", "as"};
        for (int k = 0; k < names.length; k++) {
            SolsticeBoys x = MAKE.get();
            x.put(0, 9, 9);
            edges.answer(x, names[k], taken[k]);
            edges.due("behind " + Edges.told(names[k], taken[k]), x.fault(), 0);
        }
        edges.says(32, "The FAULT of the latest call that names one");
        leftByOthers(edges);
    }

    private static void leftByOthers(Edges edges) {
        int[][] args = {{0, 0}, {0, 1}, {0, 1, 1}, {0, 1}, {0}, {0, 1}, {0, 0, 1}, {1}, {0}, {0}, {0}, {0, 1, 1, 0}, {0, 1, 1},
            {0, 1, 1, 1}, {1}, {0, 1}, {0}, {0}, {0, 0, 1, 0}, {1}, {3}, {0}, {0}, {}, {}, {0}};
        String[] names = {"ofBoy", "owes", "owe", "bind", "next", "where", "knows", "able", "ring", "home", "never", "forge",
            "reading", "exam", "back", "debts", "bound", "kinds", "odds", "lose", "lose", "tell", "call", "trace", "fault",
            "many"};
        SolsticeBoys x = MAKE.get();
        x.put(0, 9, 9);
        for (int k = 0; k < names.length; k++) {
            edges.answer(x, names[k], args[k]);
            edges.due("left by " + Edges.told(names[k], args[k]), x.fault(), INDEX);
        }
    }
}
