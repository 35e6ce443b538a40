import java.math.BigInteger;

/** Rows of 0 and of 60 numbers, what is cut to a lane, copies over themselves; a trace that wraps, who tells what. */
final class SheetEdges {
    private static final int NULL_FAULT = Checks.NULL_FAULT, INDEX = Checks.INDEX;

    private SheetEdges() {
    }

    static void run(Edges edges) {
        longestRow(edges);
        emptyRow(edges);
        zeroAtFirst(edges);
        cut(edges);
        lose(edges);
        copyOfAll(edges);
        copyOverItself(edges);
        copyLeavesTheRest(edges);
        tell(edges);
        call(edges);
        traceWraps(edges);
        traceStays(edges);
    }

    private static void longestRow(Edges edges) {
        edges.says(Edges.TERMS, "a row of 0 .. 60 numbers (0 at first) of a LANE: 0 bytes, 1 shorts, 2 ints");
        for (int lane = 0; lane < 3; lane++) {
            SolsticeBoys x = new SolsticeBoys();
            edges.answers(x, 1, "sheet", 3, lane, 60);
            for (int i = 0; i < 60; i++) {
                edges.answers(x, 0, "cell", 3, i, lane);
                edges.answers(x, 1, "put", 3, i, i + 1);
                edges.answers(x, i + 1, "cell", 3, i, lane);
            }
            edges.answers(x, SolsticeBoys.LOST, "cell", 3, 60, lane);
            edges.answers(x, INDEX, "put", 3, 60, 1);
            edges.answers(x, SolsticeBoys.OUTSIDE, "sheet", 3, lane, 61);
            edges.answers(x, 60, "cell", 3, 59, lane);
            edges.answers(x, 1, "cell", 3, 0, lane);
        }
    }

    private static void emptyRow(Edges edges) {
        edges.says(23, "A SHEET gets a new row: 1.");
        for (int lane = 0; lane < 3; lane++) {
            SolsticeBoys x = new SolsticeBoys();
            edges.answers(x, 1, "sheet", 0, lane, 0);
            edges.answers(x, INDEX, "put", 0, 0, 1);
            edges.answers(x, SolsticeBoys.LOST, "cell", 0, 0, lane);
            edges.due("of no cells, not nothing", x.fault(), Edges.INDEX);
            edges.answers(x, 0, "copy", 0, 0, 0, 0, 0);
            edges.answers(x, -100, "town", 0, lane, 0, 0);
            edges.answers(x, 1, "sheet", 0, lane, 1);
            edges.answers(x, 0, "cell", 0, 0, lane);
            edges.answers(x, 1, "put", 0, 0, 1);
            edges.answers(x, INDEX, "put", 0, 1, 1);
        }
    }

    private static void zeroAtFirst(Edges edges) {
        edges.says(Edges.TERMS, "numbers (0 at first)");
        SolsticeBoys x = new SolsticeBoys();
        int[] lengths = {60, 1, 60, 0, 60};
        for (int k = 0; k < lengths.length; k++) {
            int lane = k % 3;
            edges.answers(x, 1, "sheet", 1, lane, lengths[k]);
            for (int i : new int[] {0, 1, 30, 59}) {
                if (i < lengths[k]) {
                    edges.answers(x, 0, "cell", 1, i, lane);
                    x.put(1, i, -1);
                }
            }
        }
        x.lose(1);
        x.sheet(1, 0, 60);
        edges.answers(x, 0, "cell", 1, 0, 0);
        edges.answers(x, 0, "cell", 1, 59, 0);
    }

    private static void cut(Edges edges) {
        edges.says(Edges.TERMS, "what comes to a cell of it is cut to its LANE");
        int[][] cuts = {{0, 0, 0, 0}, {127, 127, 127, 127}, {128, -128, 128, 128}, {-128, -128, -128, -128},
            {-129, 127, -129, -129}, {255, -1, 255, 255}, {256, 0, 256, 256}, {32767, -1, 32767, 32767},
            {32768, 0, -32768, 32768}, {-32768, 0, -32768, -32768}, {-32769, -1, 32767, -32769}, {65535, -1, -1, 65535},
            {65536, 0, 0, 65536}, {Edges.MOST_INT, -1, -1, Edges.MOST_INT}, {Edges.LEAST_INT, 0, 0, Edges.LEAST_INT}};
        for (int[] cut : cuts) {
            SolsticeBoys x = new SolsticeBoys();
            for (int lane = 0; lane < 3; lane++) {
                edges.says(25, "Cell i of a SHEET becomes v: 1.");
                x.sheet(lane, lane, 3);
                edges.answers(x, 1, "put", lane, 1, cut[0]);
                edges.says(26, "Cell i of what a SHEET has, taken as a row of a LANE.");
                edges.answers(x, cut[lane + 1], "cell", lane, 1, lane);
                edges.due("fault()", x.fault(), 0);
                edges.answers(x, 0, "cell", lane, 0, lane);
                edges.answers(x, 0, "cell", lane, 2, lane);
            }
        }
    }

    private static void lose(Edges edges) {
        edges.says(24, "A SHEET has nothing: 1; 0: it had nothing.");
        for (int k = 0; k < 4; k++) {
            SolsticeBoys x = new SolsticeBoys();
            edges.answers(x, 0, "lose", k);
            for (int other = 0; other < 4; other++) {
                x.sheet(other, 0, other);
            }
            edges.answers(x, 1, "lose", k);
            edges.answers(x, 0, "lose", k);
            edges.answers(x, NULL_FAULT, "put", k, 0, 0);
            for (int other = 0; other < 4; other++) {
                edges.answers(x, other == k ? 0 : 1, "lose", other);
            }
        }
    }

    private static void copyOfAll(Edges edges) {
        edges.says(27, "n cells of a SHEET from i on go to another one (perhaps the same) from j on, as they were: n.");
        int[] wide = {-1, -30000, Edges.LEAST_INT};
        for (int lane = 0; lane < 3; lane++) {
            SolsticeBoys x = new SolsticeBoys();
            x.sheet(0, lane, 60);
            x.sheet(1, lane, 60);
            for (int i = 0; i < 60; i++) {
                x.put(0, i, wide[lane] + i);
            }
            edges.answers(x, 60, "copy", 0, 0, 1, 0, 60);
            edges.answers(x, 60, "copy", 0, 0, 0, 0, 60);
            for (int i = 0; i < 60; i++) {
                edges.answers(x, wide[lane] + i, "cell", 1, i, lane);
                edges.answers(x, wide[lane] + i, "cell", 0, i, lane);
            }
            edges.answers(x, INDEX, "copy", 0, 0, 1, 0, 61);
            edges.answers(x, 1, "copy", 0, 59, 1, 0, 1);
            edges.answers(x, wide[lane] + 59, "cell", 1, 0, lane);
            edges.answers(x, 0, "copy", 0, 60, 1, 60, 0);
            edges.answers(x, INDEX, "copy", 0, 61, 1, 60, 0);
            edges.answers(x, INDEX, "copy", 0, 60, 1, 61, 0);
        }
    }

    private static void row(Edges edges, SolsticeBoys x, int k, int... want) {
        for (int i = 0; i < want.length; i++) {
            edges.answers(x, want[i], "cell", k, i, 1);
        }
        edges.answers(x, SolsticeBoys.LOST, "cell", k, want.length, 1);
    }

    private static void copyOverItself(Edges edges) {
        edges.says(27, "(perhaps the same) from j on, as they were");
        for (int by = 1; by < 5; by++) {
            SolsticeBoys up = new SolsticeBoys();
            SolsticeBoys down = new SolsticeBoys();
            Checks.writeNumbers(up, 2, 1, 10, 11, 12, 13, 14);
            Checks.writeNumbers(down, 2, 1, 10, 11, 12, 13, 14);
            edges.answers(up, 5 - by, "copy", 2, 0, 2, by, 5 - by);
            edges.answers(down, 5 - by, "copy", 2, by, 2, 0, 5 - by);
            int[] wantUp = new int[5];
            int[] wantDown = new int[5];
            for (int i = 0; i < 5; i++) {
                wantUp[i] = 10 + (i < by ? i : i - by);
                wantDown[i] = 10 + (i + by < 5 ? i + by : i);
            }
            row(edges, up, 2, wantUp);
            row(edges, down, 2, wantDown);
        }
    }

    private static void copyLeavesTheRest(Edges edges) {
        edges.says(27, "n cells of a SHEET from i on go to another one");
        SolsticeBoys x = new SolsticeBoys();
        Checks.writeNumbers(x, 0, 1, 1, 2, 3, 4);
        Checks.writeNumbers(x, 3, 1, 91, 92, 93, 94, 95);
        edges.answers(x, 2, "copy", 0, 1, 3, 2, 2);
        row(edges, x, 3, 91, 92, 2, 3, 95);
        row(edges, x, 0, 1, 2, 3, 4);
        edges.answers(x, 0, "copy", 0, 1, 3, 2, 0);
        row(edges, x, 3, 91, 92, 2, 3, 95);
        x.put(0, 1, 77);
        row(edges, x, 3, 91, 92, 2, 3, 95);
    }

    private static int traced(int before, int... bodies) {
        BigInteger trace = BigInteger.valueOf(before);
        for (int body : bodies) {
            trace = trace.multiply(BigInteger.valueOf(31)).add(BigInteger.valueOf(body));
        }
        return trace.intValue();
    }

    private static void tell(Edges edges) {
        edges.says(28, "TELLING of a BOY.");
        int[][] bodies = {{1}, {2, 1}, {3, 2, 1, 1}};
        for (int kind = 0; kind < 3; kind++) {
            for (int m = 0; m < 5; m++) {
                SolsticeBoys x = Checks.townOf("j5,01000,00100,00010,00001,10000;" + "bcd".charAt(kind) + m);
                int want = kind == 0 ? m : kind == 1 ? m + 100 : m + 100 + m;
                edges.answers(x, want, "tell", 0);
                edges.answers(x, traced(0, bodies[kind]), "trace");
                edges.answers(x, want, "tell", 0);
                edges.answers(x, traced(traced(0, bodies[kind]), bodies[kind]), "trace");
            }
        }
    }

    private static void call(Edges edges) {
        edges.says(29, "How he is CALLED.");
        SolsticeBoys x = Checks.townOf("j2,00,00;b1;c1;d1;b1");
        int[] names = {0, 1, 20, 3};
        int[] bodies = {4, 4, 5, 4};
        int trace = 0;
        for (int b = 0; b < 4; b++) {
            edges.answers(x, names[b], "call", b);
            trace = traced(trace, bodies[b]);
            edges.answers(x, trace, "trace");
        }
        SolsticeBoys dunce = Checks.townOf("j2,00,00;b1;c1;d1;d1");
        edges.answers(dunce, 20, "call", 3);
        edges.answers(dunce, 5, "trace");
    }

    private static void traceWraps(Edges edges) {
        edges.says(Edges.TERMS, "TRACE (an int that wraps, 0 at first, becomes 31 times it and the number)");
        SolsticeBoys x = Checks.townOf("j2,00,00;b1;c1;d1");
        edges.answers(x, 0, "trace");
        int trace = 0;
        boolean below = false;
        for (int k = 0; k < 40; k++) {
            x.tell(k % 3);
            trace = traced(trace, new int[][] {{1}, {2, 1}, {3, 2, 1, 1}}[k % 3]);
            x.call(k % 3);
            trace = traced(trace, k % 3 == 2 ? 5 : 4);
            edges.answers(x, trace, "trace");
            below |= trace < 0;
        }
        edges.due("it was below 0 at times", below ? 1 : 0, 1);
        edges.says(31, "TRACE.");
        edges.answers(x, trace, "trace");
        edges.answers(x, trace, "trace");
    }

    private static void traceStays(Edges edges) {
        edges.says(31, "TRACE.");
        edges.answers(new SolsticeBoys(), 0, "trace");
        SolsticeBoys x = Checks.townOf("j2,00,00;b1;c1;d1");
        x.tell(2);
        int trace = traced(0, 3, 2, 1, 1);
        x.tell(3);
        x.call(-1);
        x.as(2, 1);
        x.as(0, 2);
        x.ofBoy(2, 2);
        x.kinds(2);
        x.bound(2);
        edges.answers(x, trace, "trace");
    }
}
