/** Promises 23 to 27: sheet, lose, put, cell, copy. */
final class SheetsTest {
    private static final Checks CHECKS = new Checks();

    public static void main(String[] args) {
        sheet();
        lose();
        put();
        cell();
        copy();
        copyRefusals();
        CHECKS.end();
    }

    private static void sheet() {
        SolsticeBoys x = new SolsticeBoys();
        for (int lane = 0; lane < 3; lane++) {
            CHECKS.due("sheet", x.sheet(3, lane, 60), 1);
            for (int i = 0; i < 60; i++) {
                CHECKS.due("put " + i, x.put(3, i, 7), 1);
            }
            CHECKS.due("last cell", x.cell(3, 59, lane), 7);
            CHECKS.due("a new row", x.sheet(3, lane, 60), 1);
            for (int i = 0; i < 60; i++) {
                CHECKS.due("0 at first " + i, x.cell(3, i, lane), 0);
            }
            CHECKS.due("an empty row", x.sheet(3, lane, 0), 1);
            CHECKS.due("without cells", x.put(3, 0, 1), Checks.INDEX);
        }
        CHECKS.due("no sheet", x.sheet(4, 9, 99), SolsticeBoys.UNKNOWN);
        CHECKS.due("fault", x.fault(), 0);
        CHECKS.due("no sheet", x.sheet(-1, 0, -1), SolsticeBoys.UNKNOWN);
        CHECKS.due("lane", x.sheet(0, 3, -1), SolsticeBoys.OUTSIDE);
        CHECKS.due("lane", x.sheet(0, -1, 1), SolsticeBoys.OUTSIDE);
        CHECKS.due("above 60", x.sheet(0, 0, 61), SolsticeBoys.OUTSIDE);
        CHECKS.due("still nothing", x.lose(0), 0);
        x.sheet(0, 0, 1);
        x.put(0, 0, 5);
        CHECKS.due("below 0", x.sheet(0, 1, -1), Checks.SIZE);
        CHECKS.due("fault", x.fault(), 4);
        CHECKS.due("far below 0", x.sheet(0, 1, Integer.MIN_VALUE), Checks.SIZE);
        CHECKS.due("as it was", x.cell(0, 0, 0), 5);
        x.put(0, 9, 9);
        x.sheet(0, 0, 61);
        CHECKS.due("fault behind a refusal", x.fault(), 0);
        x.put(0, 9, 9);
        x.sheet(0, 0, 1);
        CHECKS.due("fault behind an answer", x.fault(), 0);
    }

    private static void lose() {
        SolsticeBoys x = new SolsticeBoys();
        CHECKS.due("nothing", x.lose(1), 0);
        x.sheet(1, 1, 0);
        x.put(1, 0, 0);
        CHECKS.due("an empty row", x.lose(1), 1);
        CHECKS.due("lose names no fault", x.fault(), 3);
        CHECKS.due("nothing again", x.lose(1), 0);
        CHECKS.due("nothing there", x.put(1, 0, 0), Checks.NULL_FAULT);
        CHECKS.due("no sheet", x.lose(4), SolsticeBoys.UNKNOWN);
        CHECKS.due("no sheet", x.lose(-1), SolsticeBoys.UNKNOWN);
        CHECKS.due("lose names no fault", x.fault(), 1);
    }

    private static void put() {
        SolsticeBoys x = new SolsticeBoys();
        int[] values = {0, 1, -1, 127, 128, -129, 255, 256, 32768, -32769, 65535, 1 << 20, Integer.MIN_VALUE};
        for (int v : values) {
            long[] want = {(byte) v, (short) v, v};
            for (int lane = 0; lane < 3; lane++) {
                x.sheet(lane, lane, 2);
                CHECKS.due("put", x.put(lane, 1, v), 1);
                CHECKS.due(v + " cut to lane " + lane, x.cell(lane, 1, lane), want[lane]);
                CHECKS.due("the other", x.cell(lane, 0, lane), 0);
            }
        }
        CHECKS.due("nothing", x.put(3, -1, 0), Checks.NULL_FAULT);
        CHECKS.due("fault", x.fault(), 1);
        CHECKS.due("no sheet", x.put(4, -1, 0), SolsticeBoys.UNKNOWN);
        CHECKS.due("fault", x.fault(), 0);
        CHECKS.due("no sheet", x.put(-1, 0, 0), SolsticeBoys.UNKNOWN);
        int[] places = {-1, 2, 60, Integer.MIN_VALUE, Integer.MAX_VALUE};
        for (int i : places) {
            CHECKS.due("place " + i, x.put(0, i, 0), Checks.INDEX);
            CHECKS.due("fault", x.fault(), 3);
        }
        CHECKS.due("put", x.put(0, 0, 0), 1);
        CHECKS.due("fault", x.fault(), 0);
    }

    private static void cell() {
        SolsticeBoys x = new SolsticeBoys();
        Checks.writeNumbers(x, 1, 1, 5, -6);
        CHECKS.due("cell", x.cell(1, 0, 1), 5);
        CHECKS.due("cell", x.cell(1, 1, 1), -6);
        lost(x, 4, 0, 9, 0);
        lost(x, -1, 0, 1, 0);
        lost(x, 1, 0, 3, 0);
        lost(x, 1, 0, -1, 0);
        lost(x, 1, 9, 0, 2);
        lost(x, 1, 9, 2, 2);
        lost(x, 0, 9, 0, 1);
        lost(x, 1, 2, 1, 3);
        lost(x, 1, -1, 1, 3);
        lost(x, 1, Integer.MAX_VALUE, 1, 3);
        CHECKS.due("cell", x.cell(1, 0, 1), 5);
        CHECKS.due("fault", x.fault(), 0);
    }

    private static void lost(SolsticeBoys x, int k, int i, int lane, int fault) {
        x.sheet(0, 0, fault == 0 ? -1 : 1);
        x.lose(0);
        CHECKS.due("cell " + k + " " + i + " " + lane, x.cell(k, i, lane), SolsticeBoys.LOST);
        CHECKS.due("its fault", x.fault(), fault);
    }

    private static void copy() {
        SolsticeBoys x = new SolsticeBoys();
        Checks.writeNumbers(x, 0, 0, 1, 2, 3, 4, 5);
        Checks.writeNumbers(x, 1, 0, 9, 9, 9);
        CHECKS.due("copy", x.copy(0, 1, 1, 1, 2), 2);
        row(x, 1, 9, 2, 3);
        row(x, 0, 1, 2, 3, 4, 5);
        CHECKS.due("up within one", x.copy(0, 0, 0, 1, 4), 4);
        row(x, 0, 1, 1, 2, 3, 4);
        CHECKS.due("down within one", x.copy(0, 1, 0, 0, 4), 4);
        row(x, 0, 1, 2, 3, 4, 4);
        CHECKS.due("none at the ends", x.copy(0, 5, 1, 3, 0), 0);
        row(x, 1, 9, 2, 3);
    }

    private static void row(SolsticeBoys x, int k, int... want) {
        for (int i = 0; i < want.length; i++) {
            CHECKS.due("cell " + i, x.cell(k, i, 0), want[i]);
        }
    }

    private static void copyRefusals() {
        SolsticeBoys x = new SolsticeBoys();
        Checks.writeNumbers(x, 0, 0, 1, 2, 3);
        Checks.writeNumbers(x, 1, 0, 9, 9, 9, 9);
        Checks.writeNumbers(x, 2, 1, 7, 7, 7);
        answer(x, -1, -1, 3, 0, 0, SolsticeBoys.UNKNOWN);
        answer(x, 4, 0, 3, 0, 0, SolsticeBoys.UNKNOWN);
        answer(x, 3, 0, -1, 0, 0, SolsticeBoys.UNKNOWN);
        answer(x, 3, 0, 4, 0, 0, SolsticeBoys.UNKNOWN);
        answer(x, 3, -1, 0, -1, -1, Checks.NULL_FAULT);
        answer(x, 0, -1, 3, -1, -1, Checks.NULL_FAULT);
        answer(x, 3, 0, 3, 0, 0, Checks.NULL_FAULT);
        answer(x, 0, -1, 2, -1, -1, Checks.CAST);
        answer(x, 2, 0, 0, 0, 1, Checks.CAST);
        answer(x, 0, -1, 1, 0, 1, Checks.INDEX);
        answer(x, 0, 0, 1, -1, 1, Checks.INDEX);
        answer(x, 0, 0, 1, 0, -1, Checks.INDEX);
        answer(x, 0, 0, 1, 0, 4, Checks.INDEX);
        answer(x, 1, 0, 0, 0, 4, Checks.INDEX);
        answer(x, 0, 1, 1, 0, 3, Checks.INDEX);
        answer(x, 1, 0, 0, 1, 3, Checks.INDEX);
        answer(x, 0, 4, 1, 0, 0, Checks.INDEX);
        answer(x, 0, 0, 1, 5, 0, Checks.INDEX);
        answer(x, 0, Integer.MAX_VALUE, 1, 0, Integer.MAX_VALUE, Checks.INDEX);
        answer(x, 0, 0, 1, Integer.MAX_VALUE, 1, Checks.INDEX);
        answer(x, 0, 1, 1, 1, Integer.MAX_VALUE, Checks.INDEX);
        answer(x, 0, Integer.MIN_VALUE, 1, Integer.MIN_VALUE, Integer.MIN_VALUE, Checks.INDEX);
        row(x, 0, 1, 2, 3);
        row(x, 1, 9, 9, 9, 9);
        answer(x, 0, 3, 1, 4, 0, 0);
    }

    private static void answer(SolsticeBoys x, int k, int i, int other, int j, int n, int want) {
        x.put(3, 0, 0);
        CHECKS.due("copy " + k + " " + i + " " + other + " " + j + " " + n, x.copy(k, i, other, j, n), want);
        CHECKS.due("its fault", x.fault(), want < -10 ? -10 - want : 0);
    }
}
