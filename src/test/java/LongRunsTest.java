import java.lang.reflect.Method;
import java.util.Arrays;
import java.util.HashMap;
import java.util.HashSet;
import java.util.List;
import java.util.Map;
import java.util.Random;
import java.util.Set;

/** Runs of 512 calls on one object, each answer held against the Whole; each call of the face is the last of some run. */
final class LongRunsTest {
    private static final int CALLS = 512, RUNS_OF_EACH = 12;
    private static final Checks CHECKS = new Checks();
    private static final int[] NUMBERS = {-1, -2, 0, 1, 2, 3, 4, 5, 9, 10, 20, 21, 40, 41, 59, 60, 61, 100,
        Integer.MIN_VALUE, Integer.MIN_VALUE + 1, Integer.MAX_VALUE, Integer.MAX_VALUE - 1};

    /** A letter for each number that a call takes: see usual. */
    private static final String[][] FACE = {
        {"town", "XLJD"}, {"ofBoy", "BW"}, {"owes", "MM"}, {"owe", "MMP"}, {"bind", "BM"}, {"next", "M"}, {"where", "BN"},
        {"knows", "BMN"}, {"able", "N"}, {"ring", "M"}, {"home", "B"}, {"never", "B"}, {"walk", "BSLIC"},
        {"forge", "BMTW"}, {"reading", "BTM"}, {"exam", "BTMK"}, {"back", "R"}, {"debts", "MM"}, {"bound", "B"},
        {"kinds", "B"}, {"odds", "BMTH"}, {"sheet", "SAZ"}, {"lose", "S"}, {"put", "SIV"}, {"cell", "SIL"},
        {"copy", "SIOIF"}, {"tell", "B"}, {"call", "B"}, {"as", "BW"}, {"trace", ""}, {"fault", ""}, {"many", "W"}};
    private static final Map<String, Method> METHODS = new HashMap<>();
    /** What was last of a run: names with 'taken' or 'refused', so that neither goes untested unseen. */
    private static final Set<String> LAST = new HashSet<>();

    private final Random random;
    private final SolsticeBoys x = new SolsticeBoys();
    private final Whole whole = new Whole();
    private final StringBuilder told = new StringBuilder();
    private int calls = 0;
    private boolean wrong = false;
    private int textSheet = 0;
    private int textStart = 0;
    private int textLength = 0;
    private int usedSheet = 0;
    private int usedPlace = 0;

    private LongRunsTest(int seed) {
        random = new Random(seed);
    }

    public static void main(String[] args) {
        for (Method method : SolsticeBoys.class.getDeclaredMethods()) {
            METHODS.put(method.getName(), method);
        }
        for (int round = 0; round < FACE.length * RUNS_OF_EACH; round++) {
            new LongRunsTest(round).run(FACE[round % FACE.length], round / FACE.length % 3);
        }
        for (String[] call : FACE) {
            CHECKS.isTrue(call[0] + " is taken as a last call", LAST.contains(call[0] + " taken"));
            CHECKS.isTrue(call[0] + " is refused as a last call", call[1].isEmpty() || LAST.contains(call[0] + " refused"));
        }
        CHECKS.end();
    }

    private void run(String[] last, int oddNumbers) {
        if (random.nextInt(6) == 0) {
            anyCalls(20);
        }
        int freeCalls = last[0].equals("town") ? CALLS - 120 : CALLS;
        while (goesOn() && calls < freeCalls) {
            step();
        }
        if (goesOn()) {
            tellTown();
        }
        while (goesOn()) {
            ask("able", numbers("N", 0));
        }
        if (!wrong) {
            int[] args = numbers(last[1], 0);
            for (int k = 0; k < oddNumbers && args.length > 0; k++) {
                args[random.nextInt(args.length)] = NUMBERS[random.nextInt(NUMBERS.length)];
            }
            long answer = compared(last[0], args);
            boolean refused = answer < 0 && answer != SolsticeBoys.NONE && !last[1].isEmpty();
            LAST.add(last[0] + (refused ? " refused" : " taken"));
            CHECKS.due("calls of a run", calls, CALLS);
        }
    }

    private void step() {
        int which = random.nextInt(24);
        if (whole.town().masters == 0 || which == 0) {
            tellTown();
        } else if (which < 4) {
            retouchTown();
        } else if (which < 6) {
            tellWalk();
        } else if (which < 9) {
            readTruth();
        } else {
            anyCalls(1 + random.nextInt(12));
        }
    }

    /** Asks both, and ends the run at the first answer that differs: what follows it would only repeat it. */
    private long compared(String name, int... args) {
        calls++;
        told.append(' ').append(Edges.told(name, args));
        long want = whole.answer(name, args);
        long got = answer(name, args);
        CHECKS.due("call " + calls + " of" + (got == want ? "" : told), got, want);
        wrong = got != want;
        return want;
    }

    private boolean goesOn() {
        return calls < CALLS - 1 && !wrong;
    }

    private void ask(String name, int... args) {
        if (goesOn()) {
            compared(name, args);
        }
        if (goesOn() && random.nextInt(8) == 0) {
            compared("fault");
        }
    }

    private long answer(String name, int... args) {
        try {
            Object[] boxed = Arrays.stream(args).boxed().toArray();
            return ((Number) METHODS.get(name).invoke(x, boxed)).longValue();
        } catch (ReflectiveOperationException e) {
            throw new IllegalStateException(told.toString(), e);
        }
    }

    private void tellTown() {
        String text = Model.random(random, random.nextBoolean() ? 9 : 2).text();
        textSheet = random.nextInt(4);
        textStart = random.nextInt(61 - text.length());
        textLength = text.length();
        int lane = random.nextInt(3);
        ask("sheet", textSheet, lane, Math.min(60, textStart + textLength + 3));
        for (int k = 0; k < textLength; k++) {
            ask("put", textSheet, textStart + k, text.charAt(k));
        }
        ask("town", textSheet, lane, textStart, textLength);
        if (random.nextInt(3) == 0) {
            tellBoyMore(lane);
        }
    }

    /** A fifth one at times. */
    private void tellBoyMore(int lane) {
        String boy = ";" + "bcd".charAt(random.nextInt(3)) + "0";
        for (int k = 0; k < boy.length(); k++) {
            ask("put", textSheet, textStart + textLength + k, boy.charAt(k));
        }
        ask("town", textSheet, lane, textStart, textLength + boy.length());
    }

    private void retouchTown() {
        int place = textStart + random.nextInt(textLength);
        int lane = Math.max(0, whole.laneOf(textSheet));
        int before = whole.at(textSheet, place);
        if (random.nextInt(4) > 0) {
            ask("put", textSheet, place, "0123456789bcdj,;".charAt(random.nextInt(16)));
        }
        boolean cut = random.nextInt(3) == 0;
        ask("town", textSheet, lane, textStart, cut ? random.nextInt(textLength + 3) : textLength);
        if (random.nextInt(4) > 0) {
            ask("put", textSheet, place, before);
        }
    }

    private void tellWalk() {
        int k = (textSheet + 1 + random.nextInt(3)) % 4;
        int b = random.nextInt(whole.town().boys);
        int n = random.nextInt(random.nextInt(5) == 0 ? 41 : 9);
        int lane = random.nextInt(3);
        ask("sheet", k, lane, n);
        for (int step = 0; step < n && goesOn(); step++) {
            ask("put", k, step, whole.town().where(b, step));
        }
        if (n > 0 && random.nextBoolean()) {
            ask("put", k, random.nextInt(n), random.nextInt(6));
        }
        ask("walk", b, k, lane, 0, n);
    }

    /** Mostly true readings: so that the sets do not all come out empty; ahead of them sometimes all are taken back. */
    private void readTruth() {
        Model town = whole.town();
        if (random.nextInt(3) == 0) {
            ask("back", town.readingCount);
        }
        for (int k = random.nextInt(4); k >= 0; k--) {
            int b = random.nextInt(town.boys);
            int n = random.nextInt(21);
            int m = random.nextInt(town.masters);
            if (random.nextBoolean()) {
                ask("exam", b, n, m, town.behind(b, n)[m]);
            } else {
                ask("reading", b, n, town.where(b, n));
            }
        }
        for (String name : List.of("debts", "bound", "kinds")) {
            ask(name, numbers(name.equals("debts") ? "MM" : "B", 0));
        }
    }

    private void anyCalls(int count) {
        for (int k = 0; k < count; k++) {
            String[] call = FACE[random.nextInt(FACE.length)];
            ask(call[0], numbers(call[1], 12));
        }
    }

    /** One in so many is an odd one; 0: none is. */
    private int[] numbers(String letters, int oddOnes) {
        int[] numbers = new int[letters.length()];
        for (int k = 0; k < numbers.length; k++) {
            boolean odd = oddOnes > 0 && random.nextInt(oddOnes) == 0;
            int number = usual(letters.charAt(k));
            numbers[k] = odd ? NUMBERS[random.nextInt(NUMBERS.length)] : number;
        }
        return numbers;
    }

    private int usual(char letter) {
        switch (letter) {
            case 'B': return random.nextInt(Math.max(1, whole.town().boys));
            case 'M': return random.nextInt(Math.max(1, whole.town().masters));
            case 'N': return random.nextInt(61);
            case 'T': return random.nextInt(21);
            case 'W': return random.nextInt(3);
            case 'H': return random.nextInt(2);
            case 'A': return random.nextInt(3);
            case 'P': return random.nextInt(10);
            case 'K': return random.nextInt(41);
            case 'R': return random.nextInt(whole.town().readingCount + 1);
            default: return ofSheets(letter);
        }
    }

    private int ofSheets(char letter) {
        int length = whole.lengthOf(usedSheet);
        switch (letter) {
            case 'S':
                usedSheet = random.nextInt(4);
                return usedSheet;
            case 'O':
                usedSheet = sheetLike(usedSheet);
                return usedSheet;
            case 'X':
                usedSheet = textSheet;
                return textSheet;
            case 'J':
                return textStart;
            case 'D':
                return textLength;
            case 'L':
                return Math.max(0, whole.laneOf(usedSheet));
            case 'I':
                usedPlace = random.nextInt(Math.max(1, length));
                return usedPlace;
            case 'C':
                return random.nextInt(Math.max(1, length - usedPlace + 1));
            case 'F':
                return random.nextInt(4);
            case 'Z':
                return random.nextInt(61);
            case 'V':
                return random.nextBoolean() ? random.nextInt(5) : random.nextInt();
            default:
                throw new IllegalArgumentException(String.valueOf(letter));
        }
    }

    /** Mostly one of the same lane, perhaps the same: so that copies are made. */
    private int sheetLike(int k) {
        int other = random.nextInt(4);
        return whole.laneOf(other) == whole.laneOf(k) || random.nextInt(4) == 0 ? other : k;
    }
}
