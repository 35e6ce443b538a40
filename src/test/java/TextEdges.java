import java.util.function.Supplier;

/** The TEXT of a town: its FIRST FAULT at every place, where it ends too soon, and what a taken one makes anew. */
final class TextEdges {
    private static final String DIGITS = "0123456789";

    private TextEdges() {
    }

    static void run(Edges edges) {
        endsTooSoon(edges);
        spoiltAtEachPlace(edges);
        howManyMasters(edges);
        fifthBoy(edges);
        cellsOfASheet(edges);
        codesBeyondABoundary(edges);
        notTakenChangesNothing(edges);
        allAnew(edges);
        kinds(edges);
        penceAndBinding(edges);
    }

    private static String text(int masters, int boys) {
        StringBuilder s = new StringBuilder("j").append(masters);
        for (int a = 0; a < masters; a++) {
            s.append(',');
            for (int b = 0; b < masters; b++) {
                s.append(a == b ? 0 : 9 - a - b);
            }
        }
        for (int b = 0; b < boys; b++) {
            s.append(";").append("bcdb".charAt(b)).append(masters - 1);
        }
        return s.toString();
    }

    private static void endsTooSoon(Edges edges) {
        edges.says(Edges.TERMS, "how many codes there are, if it just ends too soon");
        for (int masters = 2; masters <= 5; masters++) {
            String whole = text(masters, 4);
            int firstBoy = 2 + masters * (masters + 1);
            for (int length = 0; length <= whole.length(); length++) {
                boolean taken = length > firstBoy && (length - firstBoy) % 3 == 0;
                SolsticeBoys x = new SolsticeBoys();
                int want = taken ? (length - firstBoy) / 3 : -100 - length;
                edges.due(whole.substring(0, length), Checks.found(x, whole.substring(0, length)), want);
                edges.due("boys of it", x.many(0), taken ? want : 0);
                edges.due("masters of it", x.many(1), taken ? masters : 0);
            }
        }
    }

    /** Every code of a byte at every place of one text. */
    private static void spoiltAtEachPlace(Edges edges) {
        edges.says(Edges.TERMS, "FIRST FAULT: the place (from 0 on) of the first code with which no TEXT goes on");
        String whole = "j3,012,304,560;b0;c1;d2;b0";
        String[] fit = {"j", "3", ",", "0", DIGITS, DIGITS, ",", DIGITS, "0", DIGITS, ",", DIGITS, DIGITS, "0",
            ";", "bcd", "012", ";", "bcd", "012", ";", "bcd", "012", ";", "bcd", "012"};
        for (int place = 0; place < whole.length(); place++) {
            SolsticeBoys x = new SolsticeBoys();
            Checks.write(x, 0, 0, whole);
            for (int code = -128; code < 128; code++) {
                x.put(0, place, code);
                boolean fits = code > 0 && fit[place].indexOf(code) >= 0;
                int want = fits ? 4 : place == 1 ? ofAnotherNumber(code) : -100 - place;
                edges.due(whole + " with code " + code + " at " + place, x.town(0, 0, 0, whole.length()), want);
                if (code % 100 == 0) {
                    x = new SolsticeBoys();
                    Checks.write(x, 0, 0, whole);
                }
            }
        }
    }

    /** With 2 masters the third digit of a debt is one too many; with 4 and 5 the comma comes too soon. */
    private static int ofAnotherNumber(int code) {
        return code == '2' ? -105 : code == '4' || code == '5' ? -106 : -101;
    }

    private static void howManyMasters(Edges edges) {
        edges.says(Edges.TERMS, "j, a digit 2 .. 5 (MASTERS, numbered from 0 on; each has a TRADE of his own number)");
        for (int digit = 0; digit <= 9; digit++) {
            boolean taken = digit >= 2 && digit <= 5;
            edges.due("j" + digit, Checks.found(new SolsticeBoys(), "j" + digit), taken ? -102 : -101);
        }
        for (int masters = 2; masters <= 5; masters++) {
            SolsticeBoys x = Checks.townOf(text(masters, 1));
            edges.due("masters", x.many(1), masters);
            edges.due("the last is there", x.next(masters - 1) >= 0 ? 1 : 0, 1);
            edges.due("none beyond", x.next(masters), SolsticeBoys.UNKNOWN);
            edges.due("his trade", x.knows(0, masters - 1, 1), 9);
        }
        edges.due("1 master", Checks.found(new SolsticeBoys(), "j1,0;b0"), -101);
        edges.due("6 masters", Checks.found(new SolsticeBoys(), "j6,000000"), -101);
    }

    private static void fifthBoy(Edges edges) {
        edges.says(Edges.TERMS, "with which no TEXT goes on (the ; of a fifth BOY)");
        for (int masters = 2; masters <= 5; masters++) {
            String four = text(masters, 4);
            edges.due("four", Checks.found(new SolsticeBoys(), four), 4);
            for (String more : new String[] {";", ";b", ";b0", ";b0;b0", ",", "b", "0", "j"}) {
                edges.due(four + more, Checks.found(new SolsticeBoys(), four + more), -100 - four.length());
            }
        }
        edges.says(Edges.TERMS, "then 1 to 4 BOYS, numbered from 0 on");
        for (int boys = 1; boys <= 4; boys++) {
            SolsticeBoys x = new SolsticeBoys();
            edges.due(boys + " boys", Checks.found(x, text(2, boys)), boys);
            edges.due("the last is there", x.ofBoy(boys - 1, 1), 1);
            edges.due("none beyond", x.ofBoy(boys, 1), SolsticeBoys.UNKNOWN);
        }
        edges.due("0 boys", Checks.found(new SolsticeBoys(), text(2, 0)), -108);
    }

    private static void cellsOfASheet(Edges edges) {
        edges.says(2, "A TOWN by a TEXT of n cells of a SHEET from i on, taken as a row of a LANE: how many BOYS;");
        String text = text(5, 4);
        for (int lane = 0; lane < 3; lane++) {
            for (int sheet = 0; sheet < 4; sheet++) {
                SolsticeBoys x = new SolsticeBoys();
                x.sheet(sheet, lane, 60);
                int first = 60 - text.length();
                for (int i = 0; i < text.length(); i++) {
                    x.put(sheet, first + i, text.charAt(i));
                }
                edges.answers(x, -100, "town", sheet, lane, 0, 60);
                edges.answers(x, -100, "town", sheet, lane, first - 1, text.length());
                edges.answers(x, 2, "town", sheet, lane, first, text.length() - 6);
                edges.answers(x, 4, "town", sheet, lane, first, text.length());
                edges.answers(x, -13, "town", sheet, lane, first, text.length() + 1);
                edges.answers(x, -100, "town", sheet, lane, 60, 0);
                edges.answers(x, -101, "town", sheet, lane, first, 1);
                edges.answers(x, -100, "town", sheet, lane, 59, 1);
                edges.due("the last text that was taken stands", x.many(0), 4);
            }
        }
        SolsticeBoys x = new SolsticeBoys();
        Checks.write(x, 0, 0, text + "!");
        edges.answers(x, -144, "town", 0, 0, 0, 45);
        edges.answers(x, 4, "town", 0, 0, 0, 44);
    }

    /** Shorts and ints may hold what would be a right code only if it were cut. */
    private static void codesBeyondABoundary(Edges edges) {
        edges.says(Edges.TERMS, "Codes: j 106, b 98, c 99, d 100, ; 59, comma 44, digits 48 .. 57.");
        String whole = "j2,09,90;b0;c1;d0;b1";
        for (int place = 0; place < whole.length(); place++) {
            SolsticeBoys x = new SolsticeBoys();
            Checks.write(x, 0, 1, whole);
            Checks.write(x, 1, 2, whole);
            edges.answers(x, 4, "town", 0, 1, 0, whole.length());
            edges.answers(x, 4, "town", 1, 2, 0, whole.length());
            x.put(0, place, whole.charAt(place) + 256);
            edges.answers(x, -100 - place, "town", 0, 1, 0, whole.length());
            x.put(0, place, whole.charAt(place) - 32768);
            edges.answers(x, -100 - place, "town", 0, 1, 0, whole.length());
            for (int far : new int[] {1 << 8, 1 << 16, 1 << 30, Edges.LEAST_INT}) {
                x.put(1, place, whole.charAt(place) + far);
                edges.answers(x, -100 - place, "town", 1, 2, 0, whole.length());
            }
            x.put(1, place, Edges.LEAST_INT);
            edges.answers(x, -100 - place, "town", 1, 2, 0, whole.length());
            x.put(1, place, Edges.MOST_INT);
            edges.answers(x, -100 - place, "town", 1, 2, 0, whole.length());
        }
    }

    private static void notTakenChangesNothing(Edges edges) {
        edges.says(2, "-100 less the FIRST FAULT.");
        for (String text : new String[] {"k", "j", "j3", "j3,0", "j3,1", "j2,00,00", "j2,00,00;", "j2,00,00;b", "j2,00,00;b2",
            "j2,00,00;b0;", "j2,00,00;b0;x"}) {
            Supplier<SolsticeBoys> make = () -> {
                SolsticeBoys x = Edges.lived();
                Checks.write(x, 2, 0, text);
                return x;
            };
            SolsticeBoys alone = new SolsticeBoys();
            int want = Checks.found(alone, text);
            edges.due("is not taken: " + text, want <= -100 ? 1 : 0, 1);
            edges.stays(make, want, "town", 2, 0, 0, text.length());
        }
    }

    private static void allAnew(Edges edges) {
        edges.says(Edges.TERMS, "A TEXT that is taken makes all anew: the boys know nothing, no READINGS.");
        SolsticeBoys x = Edges.lived(Edges.LARGE);
        x.owe(0, 1, 9);
        x.bind(0, 3);
        edges.due("a smaller one", Checks.found(x, "j2,03,00;d1"), 1);
        edges.due("boys", x.many(0), 1);
        edges.due("masters", x.many(1), 2);
        edges.due("readings", x.many(2), 0);
        edges.due("none to take back", x.back(1), SolsticeBoys.OUTSIDE);
        edges.due("no reading binds", x.bound(0), 3);
        edges.due("no reading binds", x.kinds(0), 7);
        edges.due("no reading binds", x.debts(0, 1), 1023);
        edges.due("owes", x.owes(0, 1), 3);
        edges.due("owes nothing, though one before him did", x.next(1), 1);
        edges.due("kind", x.ofBoy(0, 0), 2);
        edges.due("bound", x.ofBoy(0, 1), 1);
        edges.due("knows nothing", x.knows(0, 1, 0), 0);
        edges.due("no boy of old", x.ofBoy(1, 0), SolsticeBoys.UNKNOWN);
        edges.due("no master of old", x.next(2), SolsticeBoys.UNKNOWN);
        edges.due("its first number", x.reading(0, 0, 0), 0);
        edges.due("the larger one again", Checks.found(x, Edges.LARGE), 4);
        edges.due("as the text tells", x.owes(0, 1), 1);
        edges.due("as the text tells", x.ofBoy(0, 1), 0);
        edges.due("readings", x.many(2), 0);
    }

    private static void kinds(Edges edges) {
        edges.says(Edges.TERMS, "LEARNS in half a year: a BOY 9; a CLEVER one 3 more; a DUNCE half of what a BOY does.");
        SolsticeBoys x = Checks.townOf("j2,00,00;b0;c0;d0");
        int[] learns = {9, 12, 4};
        for (int b = 0; b < 3; b++) {
            edges.answers(x, b, "ofBoy", b, 0);
            edges.answers(x, learns[b], "ofBoy", b, 2);
            edges.answers(x, learns[b], "knows", b, 0, 1);
        }
    }

    private static void penceAndBinding(Edges edges) {
        edges.says(Edges.TERMS, "digits 0 .. 9 as there are MASTERS: PENCE that he OWES to 0, 1, ..; to himself 0");
        SolsticeBoys x = Checks.townOf("j4,0129,3045,6708,9990;b0");
        int[][] pence = {{0, 1, 2, 9}, {3, 0, 4, 5}, {6, 7, 0, 8}, {9, 9, 9, 0}};
        for (int a = 0; a < 4; a++) {
            for (int b = 0; b < 4; b++) {
                edges.answers(x, pence[a][b], "owes", a, b);
            }
        }
        edges.says(5, "PENCE that a OWES to b become v (0 .. 9): what they were.");
        edges.answers(x, 9, "owe", 0, 3, 0);
        edges.answers(x, 0, "owe", 0, 3, 9);
        edges.answers(x, 9, "owe", 0, 3, 9);
        edges.answers(x, 9, "owes", 0, 3);
        edges.answers(x, 9, "owes", 3, 0);
        edges.says(6, "A BOY is bound to a MASTER: to whom he was.");
        edges.answers(x, 0, "bind", 0, 3);
        edges.answers(x, 3, "bind", 0, 3);
        edges.answers(x, 3, "bind", 0, 0);
        edges.answers(x, 0, "where", 0, 0);
        edges.says(Edges.TERMS, "the MASTER to whom he is bound, one that there is");
        for (int masters = 2; masters <= 5; masters++) {
            String all = text(masters, 0);
            edges.due("to the last", Checks.found(new SolsticeBoys(), all + ";b" + (masters - 1)), 1);
            edges.due("to one beyond", Checks.found(new SolsticeBoys(), all + ";b" + masters), -100 - all.length() - 2);
        }
    }
}
