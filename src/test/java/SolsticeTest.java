/** Promises 7 to 14: next, where, knows, able, ring, home, never, walk. */
final class SolsticeTest {
    private static final Checks CHECKS = new Checks();

    public static void main(String[] args) {
        next();
        where();
        knows();
        able();
        ringHomeNever();
        walk();
        walkRefusals();
        CHECKS.end();
    }

    private static void next() {
        SolsticeBoys x = Checks.townOf("j5,00000,10000,33000,01202,00090;b0");
        int[] want = {0, 0, 0, 2, 3};
        for (int m = 0; m < 5; m++) {
            CHECKS.due("next " + m, x.next(m), want[m]);
        }
        CHECKS.due("next 5", x.next(5), SolsticeBoys.UNKNOWN);
        CHECKS.due("next -1", x.next(-1), SolsticeBoys.UNKNOWN);
        x.owe(0, 4, 1);
        CHECKS.due("next by a new debt", x.next(0), 4);
        x.owe(0, 1, 1);
        CHECKS.due("the least of several", x.next(0), 1);
    }

    private static void where() {
        SolsticeBoys x = Checks.townOf(Checks.FOUR);
        int[] clever = {3, 1, 2, 0, 1, 2, 0};
        for (int n = 0; n < clever.length; n++) {
            CHECKS.due("where 1 " + n, x.where(1, n), clever[n]);
        }
        CHECKS.due("where 0 60", x.where(0, 60), 0);
        CHECKS.due("where 0 61", x.where(0, 61), SolsticeBoys.OUTSIDE);
        CHECKS.due("where 0 -1", x.where(0, -1), SolsticeBoys.OUTSIDE);
        CHECKS.due("where 3", x.where(3, 61), SolsticeBoys.UNKNOWN);
        CHECKS.due("where -1", x.where(-1, 0), SolsticeBoys.UNKNOWN);
        x.owe(2, 0, 0);
        CHECKS.due("where none owes", x.where(0, 60), 2);
        x.bind(0, 3);
        CHECKS.due("where bound anew", x.where(0, 0), 3);
    }

    private static void knows() {
        SolsticeBoys x = Checks.townOf("j2,00,10;b0;c0;d0;d1");
        int[] boy = {0, 9, 15, 19, 22, 24, 25, 26};
        int[] clever = {0, 12, 20, 26, 30, 32, 34, 35};
        int[] dunce = {0, 4, 7, 9, 10, 11, 12, 12};
        int[] wanderer = {0, 4, 3, 2, 2, 2, 2, 2};
        for (int n = 0; n < boy.length; n++) {
            CHECKS.due("boy " + n, x.knows(0, 0, n), boy[n]);
            CHECKS.due("clever " + n, x.knows(1, 0, n), clever[n]);
            CHECKS.due("dunce " + n, x.knows(2, 0, n), dunce[n]);
            CHECKS.due("forgets " + n, x.knows(3, 1, n), wanderer[n]);
            CHECKS.due("never learnt " + n, x.knows(0, 1, n), 0);
        }
        CHECKS.due("n 60", x.knows(0, 0, 60), 27);
        CHECKS.due("n 61", x.knows(0, 0, 61), SolsticeBoys.OUTSIDE);
        CHECKS.due("n -1", x.knows(0, 0, -1), SolsticeBoys.OUTSIDE);
        CHECKS.due("no boy", x.knows(4, 0, 61), SolsticeBoys.UNKNOWN);
        CHECKS.due("no boy", x.knows(-1, 0, 0), SolsticeBoys.UNKNOWN);
        CHECKS.due("no master", x.knows(0, 2, 61), SolsticeBoys.UNKNOWN);
        CHECKS.due("no master", x.knows(0, -1, 0), SolsticeBoys.UNKNOWN);
    }

    private static void able() {
        SolsticeBoys empty = new SolsticeBoys();
        CHECKS.due("able without a town", empty.able(60), SolsticeBoys.STATE);
        CHECKS.due("able outside", empty.able(61), SolsticeBoys.OUTSIDE);
        CHECKS.due("able outside", empty.able(-1), SolsticeBoys.OUTSIDE);
        SolsticeBoys x = Checks.townOf("j3,000,000,000;b0;d1");
        int[] want = {0, 1, 1, 3, 3};
        for (int n = 0; n < want.length; n++) {
            CHECKS.due("able " + n, x.able(n), want[n]);
        }
        CHECKS.due("able 60", x.able(60), 3);
        CHECKS.due("able 61", x.able(61), SolsticeBoys.OUTSIDE);
        // He knows 9 of a trade behind 1, but is with another master then.
        SolsticeBoys gone = Checks.townOf("j2,01,10;b0");
        CHECKS.due("gone", gone.able(1), 0);
        CHECKS.due("knows too little at home", gone.able(2), 0);
        CHECKS.due("at home again, knowing more", gone.able(4), 1);
    }

    private static void ringHomeNever() {
        SolsticeBoys x = Checks.townOf("j5,01000,00100,01000,10000,00000;b0;c1;d3;b4");
        int[] rings = {6, 6, 6, 6, 16};
        for (int m = 0; m < 5; m++) {
            CHECKS.due("ring " + m, x.ring(m), rings[m]);
        }
        CHECKS.due("ring 5", x.ring(5), SolsticeBoys.UNKNOWN);
        CHECKS.due("ring -1", x.ring(-1), SolsticeBoys.UNKNOWN);
        int[] homes = {SolsticeBoys.NONE, 2, SolsticeBoys.NONE, 1};
        int[] nevers = {24, 25, 16, 15};
        for (int b = 0; b < 4; b++) {
            CHECKS.due("home " + b, x.home(b), homes[b]);
            CHECKS.due("never " + b, x.never(b), nevers[b]);
        }
        CHECKS.due("home 4", x.home(4), SolsticeBoys.UNKNOWN);
        CHECKS.due("home -1", x.home(-1), SolsticeBoys.UNKNOWN);
        CHECKS.due("never 4", x.never(4), SolsticeBoys.UNKNOWN);
        CHECKS.due("never -1", x.never(-1), SolsticeBoys.UNKNOWN);
        SolsticeBoys round = Checks.townOf("j5,01000,00100,00010,00001,10000;b2");
        CHECKS.due("ring of all", round.ring(3), 31);
        CHECKS.due("home behind all", round.home(0), 5);
        CHECKS.due("never none", round.never(0), 0);
    }

    private static void walk() {
        SolsticeBoys x = Checks.townOf(Checks.FOUR);
        for (int lane = 0; lane < 3; lane++) {
            Checks.writeNumbers(x, 0, lane, -1, 3, 1, 2, 0, 1, 1, 9);
            CHECKS.due("right", x.walk(1, 0, lane, 1, 5), SolsticeBoys.NONE);
            CHECKS.due("wrong at 5", x.walk(1, 0, lane, 1, 6), 5);
            CHECKS.due("wrong at 0", x.walk(0, 0, lane, 1, 1), 0);
            CHECKS.due("none told", x.walk(0, 0, lane, 8, 0), SolsticeBoys.NONE);
            CHECKS.due("no master behind a wrong one", x.walk(0, 0, lane, 1, 7), SolsticeBoys.UNKNOWN);
            CHECKS.due("no master", x.walk(0, 0, lane, 0, 2), SolsticeBoys.UNKNOWN);
            CHECKS.due("fault", x.fault(), 0);
        }
        Checks.writeNumbers(x, 0, 0, 4);
        x.walk(0, 0, 1, 0, 1);
        CHECKS.due("master 4 of 4", x.walk(0, 0, 0, 0, 1), SolsticeBoys.UNKNOWN);
        CHECKS.due("fault behind a refusal", x.fault(), 0);
        int[] forty = new int[41];
        for (int step = 0; step < forty.length; step++) {
            forty[step] = step % 3;
        }
        Checks.writeNumbers(x, 0, 0, forty);
        CHECKS.due("40 told", x.walk(0, 0, 0, 0, 40), SolsticeBoys.NONE);
        CHECKS.due("41 told", x.walk(0, 0, 0, 0, 41), SolsticeBoys.OUTSIDE);
        x.put(0, 39, 1);
        CHECKS.due("wrong at 39", x.walk(0, 0, 0, 0, 40), 39);
    }

    private static void walkRefusals() {
        SolsticeBoys x = Checks.townOf(Checks.FOUR);
        Checks.writeNumbers(x, 0, 0, 0, 1, 2);
        answer(x, -1, 0, 9, 0, 99, SolsticeBoys.UNKNOWN);
        answer(x, 3, 0, 9, 0, 99, SolsticeBoys.UNKNOWN);
        answer(x, 0, -1, 9, 0, 99, SolsticeBoys.UNKNOWN);
        answer(x, 0, 4, 9, 0, 99, SolsticeBoys.UNKNOWN);
        answer(x, 0, 0, -1, 0, 1, SolsticeBoys.OUTSIDE);
        answer(x, 0, 0, 3, 0, 1, SolsticeBoys.OUTSIDE);
        answer(x, 0, 1, 0, 0, 41, SolsticeBoys.OUTSIDE);
        answer(x, 0, 1, 0, 0, -1, SolsticeBoys.OUTSIDE);
        answer(x, 0, 0, 1, 9, 1, Checks.CAST);
        answer(x, 0, 1, 1, 9, 1, Checks.NULL_FAULT);
        answer(x, 0, 0, 0, 0, 4, Checks.INDEX);
        answer(x, 0, 0, 0, 3, 1, Checks.INDEX);
        answer(x, 0, 0, 0, 4, 0, Checks.INDEX);
        answer(x, 0, 0, 0, -1, 0, Checks.INDEX);
        answer(x, 0, 0, 0, -1, 1, Checks.INDEX);
        answer(x, 0, 0, 0, Integer.MAX_VALUE, 40, Checks.INDEX);
        answer(x, 0, 0, 0, 3, 0, SolsticeBoys.NONE);
    }

    private static void answer(SolsticeBoys x, int b, int sheet, int lane, int i, int n, int want) {
        x.put(2, 0, 0);
        CHECKS.due("walk " + b + " " + sheet + " " + lane + " " + i + " " + n, x.walk(b, sheet, lane, i, n), want);
        CHECKS.due("its fault", x.fault(), want < -10 ? -10 - want : 0);
    }
}
