/** Promises 1 to 6: a new object, town, ofBoy, owes, owe, bind. */
final class TownTest {
    private static final Checks CHECKS = new Checks();
    private static final String FIVE = "j5,01234,10234,12034,12304,12340;b0;c4;d2;b1";

    public static void main(String[] args) {
        newObject();
        textsTaken();
        textsWithFaults();
        townRefusals();
        townFaults();
        townMakesAllAnew();
        ofBoy();
        owes();
        owe();
        bind();
        CHECKS.end();
    }

    private static void newObject() {
        SolsticeBoys x = new SolsticeBoys();
        for (int what = 0; what < 3; what++) {
            CHECKS.due("new many " + what, x.many(what), 0);
        }
        for (int k = 0; k < 4; k++) {
            CHECKS.due("new lose " + k, x.lose(k), 0);
            CHECKS.due("new put " + k, x.put(k, 0, 0), Checks.NULL_FAULT);
        }
        SolsticeBoys y = new SolsticeBoys();
        CHECKS.due("new fault", y.fault(), 0);
        CHECKS.due("new trace", y.trace(), 0);
        CHECKS.due("new able", y.able(0), SolsticeBoys.STATE);
    }

    private static void textsTaken() {
        String[] texts = {"j2,09,90;b0", "j2,00,00;d1;c0", "j3,000,000,000;b2;b2;b2", Checks.FOUR, FIVE};
        int[] boys = {1, 2, 3, 3, 4};
        int[] masters = {2, 2, 3, 4, 5};
        for (int k = 0; k < texts.length; k++) {
            for (int lane = 0; lane < 3; lane++) {
                SolsticeBoys x = new SolsticeBoys();
                Checks.write(x, 1, lane, "j2" + texts[k] + ";b");
                CHECKS.due("town " + texts[k], x.town(1, lane, 2, texts[k].length()), boys[k]);
                CHECKS.due("fault", x.fault(), 0);
                CHECKS.due("boys", x.many(0), boys[k]);
                CHECKS.due("masters", x.many(1), masters[k]);
            }
        }
    }

    private static void textsWithFaults() {
        fault("", 0);
        fault("k", 0);
        fault("J2", 0);
        fault("j", 1);
        fault("j0", 1);
        fault("j1", 1);
        fault("j6", 1);
        fault("jj", 1);
        fault("j2", 2);
        fault("j2;", 2);
        fault("j2,10,00;b0", 3);
        fault("j2,0:,00;b0", 4);
        fault("j2,0/,00;b0", 4);
        fault("j2,00;", 5);
        fault("j2,000", 5);
        fault("j2,00,01;b0", 7);
        fault("j2,00,00", 8);
        fault("j2,00,00,", 8);
        fault("j2,00,00;", 9);
        fault("j2,00,00;a0", 9);
        fault("j2,00,00;e0", 9);
        fault("j2,00,00;b", 10);
        fault("j2,00,00;b2", 10);
        fault("j2,00,00;b/", 10);
        fault("j2,00,00;b0b", 11);
        fault("j2,00,00;b0;", 12);
        fault("j2,00,00;b0;c", 13);
        fault("j2,00,00;b0;c1;d0;b1;", 20);
        fault("j2,00,00;b0;c1;d0;b1;b", 20);
        fault("j2,00,00;b0;c1;d0;b1,", 20);
        fault(FIVE + ";b0", FIVE.length());
        SolsticeBoys wide = new SolsticeBoys();
        Checks.writeNumbers(wide, 0, 2, 'j', Integer.MIN_VALUE + '2');
        CHECKS.due("a number that would wrap", wide.town(0, 2, 0, 2), -101);
        Checks.writeNumbers(wide, 0, 2, 'j' + 256);
        CHECKS.due("a number beyond a byte", wide.town(0, 2, 0, 1), -100);
        wide.sheet(0, 0, 60);
        wide.put(0, 59, 'j');
        CHECKS.due("the last cell of the longest row", wide.town(0, 0, 59, 1), -101);
    }

    private static void fault(String text, int place) {
        SolsticeBoys x = Checks.townOf(Checks.FOUR);
        x.reading(0, 0, 0);
        x.as(0, 1);
        Checks.write(x, 0, 1, "j" + text);
        CHECKS.due("town " + text, x.town(0, 1, 1, text.length()), -100 - place);
        CHECKS.due("fault", x.fault(), 0);
        CHECKS.due("boys stay", x.many(0), 3);
        CHECKS.due("masters stay", x.many(1), 4);
        CHECKS.due("readings stay", x.many(2), 1);
        CHECKS.due("debts stay", x.owes(1, 2), 5);
        CHECKS.due("boys stay bound", x.ofBoy(1, 1), 3);
    }

    private static void townRefusals() {
        SolsticeBoys x = new SolsticeBoys();
        int[] sheets = {-1, 4, Integer.MIN_VALUE, Integer.MAX_VALUE};
        for (int sheet : sheets) {
            x.put(0, 0, 0);
            CHECKS.due("town of sheet " + sheet, x.town(sheet, 9, 0, -1), SolsticeBoys.UNKNOWN);
            CHECKS.due("fault behind a refusal", x.fault(), 0);
        }
        int[] lanes = {-1, 3, Integer.MIN_VALUE, Integer.MAX_VALUE};
        for (int lane : lanes) {
            x.put(0, 0, 0);
            CHECKS.due("town of lane " + lane, x.town(0, lane, 0, -1), SolsticeBoys.OUTSIDE);
            CHECKS.due("fault behind a refusal", x.fault(), 0);
        }
    }

    private static void townFaults() {
        SolsticeBoys x = new SolsticeBoys();
        townFault(x, 0, 0, 0, -1, Checks.NULL_FAULT);
        Checks.write(x, 0, 0, "j2,00,00;b0");
        townFault(x, 0, 1, 0, -1, Checks.CAST);
        townFault(x, 0, 2, 0, 11, Checks.CAST);
        townFault(x, 0, 0, -1, -1, Checks.SIZE);
        townFault(x, 0, 0, 0, Integer.MIN_VALUE, Checks.SIZE);
        townFault(x, 0, 0, 0, 12, Checks.INDEX);
        townFault(x, 0, 0, 1, 11, Checks.INDEX);
        townFault(x, 0, 0, -1, 5, Checks.INDEX);
        townFault(x, 0, 0, -1, 0, Checks.INDEX);
        townFault(x, 0, 0, 12, 0, Checks.INDEX);
        townFault(x, 0, 0, Integer.MAX_VALUE, Integer.MAX_VALUE, Checks.INDEX);
        townFault(x, 0, 0, 5, Integer.MAX_VALUE, Checks.INDEX);
        CHECKS.due("no town", x.many(1), 0);
        CHECKS.due("no cells at the end", x.town(0, 0, 11, 0), -100);
        CHECKS.due("fault", x.fault(), 0);
    }

    private static void townFault(SolsticeBoys x, int sheet, int lane, int i, int n, int want) {
        x.lose(2);
        x.town(9, 0, 0, 0);
        CHECKS.due("town " + sheet + " " + lane + " " + i + " " + n, x.town(sheet, lane, i, n), want);
        CHECKS.due("its fault", x.fault(), -10 - want);
    }

    private static void townMakesAllAnew() {
        SolsticeBoys x = Checks.townOf(FIVE);
        x.reading(0, 1, 1);
        x.tell(0);
        x.owe(0, 1, 9);
        Checks.writeNumbers(x, 0, 2, 7);
        CHECKS.due("second town", Checks.found(x, "j2,03,00;d1"), 1);
        CHECKS.due("boys", x.many(0), 1);
        CHECKS.due("masters", x.many(1), 2);
        CHECKS.due("readings", x.many(2), 0);
        CHECKS.due("no reading binds", x.debts(0, 1), 1023);
        CHECKS.due("owes", x.owes(0, 1), 3);
        CHECKS.due("owes", x.owes(1, 0), 0);
        CHECKS.due("boy", x.ofBoy(0, 0), 2);
        CHECKS.due("boy", x.ofBoy(0, 1), 1);
        CHECKS.due("no such boy", x.ofBoy(1, 0), SolsticeBoys.UNKNOWN);
        CHECKS.due("trace stays", x.trace(), 1);
        CHECKS.due("sheets stay", x.cell(0, 0, 2), 7);
        CHECKS.due("larger again", Checks.found(x, FIVE), 4);
        CHECKS.due("owes anew", x.owes(0, 1), 1);
    }

    private static void ofBoy() {
        SolsticeBoys x = Checks.townOf(FIVE);
        int[][] want = {{0, 0, 9}, {1, 4, 12}, {2, 2, 4}, {0, 1, 9}};
        for (int b = 0; b < 4; b++) {
            for (int what = 0; what < 3; what++) {
                CHECKS.due("ofBoy " + b + " " + what, x.ofBoy(b, what), want[b][what]);
            }
            CHECKS.due("ofBoy " + b + " -1", x.ofBoy(b, -1), SolsticeBoys.OUTSIDE);
            CHECKS.due("ofBoy " + b + " 3", x.ofBoy(b, 3), SolsticeBoys.OUTSIDE);
        }
        CHECKS.due("ofBoy 4", x.ofBoy(4, 3), SolsticeBoys.UNKNOWN);
        CHECKS.due("ofBoy -1", x.ofBoy(-1, 3), SolsticeBoys.UNKNOWN);
    }

    private static void owes() {
        SolsticeBoys x = Checks.townOf("j3,012,304,560;b0");
        int[][] want = {{0, 1, 2}, {3, 0, 4}, {5, 6, 0}};
        for (int a = 0; a < 3; a++) {
            for (int b = 0; b < 3; b++) {
                CHECKS.due("owes " + a + " " + b, x.owes(a, b), want[a][b]);
            }
            CHECKS.due("owes none", x.owes(a, 3), SolsticeBoys.UNKNOWN);
            CHECKS.due("owes none", x.owes(a, -1), SolsticeBoys.UNKNOWN);
            CHECKS.due("none owes", x.owes(3, a), SolsticeBoys.UNKNOWN);
            CHECKS.due("none owes", x.owes(-1, a), SolsticeBoys.UNKNOWN);
        }
    }

    private static void owe() {
        SolsticeBoys x = Checks.townOf("j3,012,304,560;b0");
        CHECKS.due("owe", x.owe(2, 0, 9), 5);
        CHECKS.due("owe again", x.owe(2, 0, 0), 9);
        CHECKS.due("owe back", x.owe(2, 0, 5), 0);
        CHECKS.due("another stays", x.owes(0, 2), 2);
        CHECKS.due("himself", x.owe(1, 1, 10), SolsticeBoys.UNKNOWN);
        CHECKS.due("himself 0", x.owe(1, 1, 0), SolsticeBoys.UNKNOWN);
        CHECKS.due("none", x.owe(3, 1, 10), SolsticeBoys.UNKNOWN);
        CHECKS.due("to none", x.owe(1, 3, 10), SolsticeBoys.UNKNOWN);
        CHECKS.due("to none", x.owe(1, -1, 1), SolsticeBoys.UNKNOWN);
        CHECKS.due("too much", x.owe(2, 0, 10), SolsticeBoys.OUTSIDE);
        CHECKS.due("too little", x.owe(2, 0, -1), SolsticeBoys.OUTSIDE);
        CHECKS.due("as it was", x.owes(2, 0), 5);
        CHECKS.due("to himself as it was", x.owes(1, 1), 0);
    }

    private static void bind() {
        SolsticeBoys x = Checks.townOf("j3,012,304,560;b0;c2");
        CHECKS.due("bind", x.bind(1, 0), 2);
        CHECKS.due("bound", x.ofBoy(1, 1), 0);
        CHECKS.due("the other stays", x.ofBoy(0, 1), 0);
        CHECKS.due("bind to the same", x.bind(1, 0), 0);
        CHECKS.due("no boy", x.bind(2, 0), SolsticeBoys.UNKNOWN);
        CHECKS.due("no boy", x.bind(-1, 0), SolsticeBoys.UNKNOWN);
        CHECKS.due("no master", x.bind(0, 3), SolsticeBoys.UNKNOWN);
        CHECKS.due("no master", x.bind(0, -1), SolsticeBoys.UNKNOWN);
        CHECKS.due("as it was", x.ofBoy(0, 1), 0);
    }
}
