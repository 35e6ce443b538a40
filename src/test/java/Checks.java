/** What the tests share: answers that are due, and towns told by a text. */
final class Checks {
    static final int NULL_FAULT = -11, CAST = -12, INDEX = -13, SIZE = -14;
    static final int TEXT_SHEET = 3;
    /** 0 owes 1 most, 1 owes 2, 2 owes 0, 3 owes 1 and 2 alike; a boy with 0, a clever one with 3, a dunce with 1. */
    static final String FOUR = "j4,0302,0050,2000,0110;b0;c3;d1";

    private int wrong = 0;
    private int asked = 0;

    void due(String call, long got, long want) {
        asked++;
        if (got != want) {
            wrong++;
            System.out.println(call + " answered " + got + ", due is " + want);
        }
    }

    void isTrue(String what, boolean so) {
        due(what, so ? 1 : 0, 1);
    }

    void end() {
        System.out.println(asked + " checks, " + wrong + " wrong");
        if (wrong != 0) {
            System.exit(1);
        }
    }

    static void write(SolsticeBoys x, int sheet, int lane, String text) {
        x.sheet(sheet, lane, text.length());
        for (int i = 0; i < text.length(); i++) {
            x.put(sheet, i, text.charAt(i));
        }
    }

    static void writeNumbers(SolsticeBoys x, int sheet, int lane, int... numbers) {
        x.sheet(sheet, lane, numbers.length);
        for (int i = 0; i < numbers.length; i++) {
            x.put(sheet, i, numbers[i]);
        }
    }

    static int found(SolsticeBoys x, String text) {
        write(x, TEXT_SHEET, 0, text);
        int answer = x.town(TEXT_SHEET, 0, 0, text.length());
        x.lose(TEXT_SHEET);
        return answer;
    }

    static SolsticeBoys townOf(String text) {
        SolsticeBoys x = new SolsticeBoys();
        if (found(x, text) < 0) {
            throw new IllegalArgumentException(text);
        }
        return x;
    }

    /** All that can be seen but fault(), and the debts and kinds that follow from the readings. */
    static String state(SolsticeBoys x) {
        StringBuilder s = new StringBuilder();
        for (int what = 0; what < 3; what++) {
            s.append(x.many(what)).append(' ');
        }
        for (int a = 0; a < x.many(1); a++) {
            for (int b = 0; b < x.many(1); b++) {
                s.append(x.owes(a, b)).append(' ');
            }
        }
        for (int b = 0; b < x.many(0); b++) {
            s.append(x.ofBoy(b, 0)).append(' ').append(x.ofBoy(b, 1)).append(' ').append(x.bound(b)).append(' ');
        }
        for (int k = 0; k < 4; k++) {
            for (int lane = 0; lane < 3; lane++) {
                for (int i = 0; i < 61; i++) {
                    long cell = x.cell(k, i, lane);
                    s.append(cell == SolsticeBoys.LOST ? "-" : cell).append(' ');
                    if (x.fault() != 0) {
                        s.append(x.fault());
                        break;
                    }
                }
            }
        }
        return s.append(x.trace()).toString();
    }
}
