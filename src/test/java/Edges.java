import java.io.IOException;
import java.lang.reflect.Method;
import java.nio.file.Files;
import java.nio.file.Path;
import java.util.Arrays;
import java.util.HashMap;
import java.util.Map;
import java.util.Set;
import java.util.TreeSet;
import java.util.function.Supplier;

/** What the tests of boundary cases share: sentences of the document, calls by their names, refusals and faults. */
final class Edges {
    static final int TERMS = 0, PROMISES = 33;
    static final int NULL_FAULT = 1, CAST = 2, INDEX = 3, SIZE = 4;
    static final int LEAST_INT = Integer.MIN_VALUE, MOST_INT = Integer.MAX_VALUE;

    static final String SMALL = "j2,01,10;b1";
    static final String LARGE = "j5,01234,10234,12034,12304,12340;b0;c4;d2;b1";
    /** From each master to the one above him, and from the last to the first. */
    static final String RING = "j5,01000,00100,00010,00001,10000;b0;c2;d4";

    private static final Set<String> NAMES_FAULTS = Set.of("town", "walk", "sheet", "put", "cell", "copy", "as");
    private static final Path DOCUMENT = Path.of("../shared/DOC.md");

    private final Checks checks = new Checks();
    private final Map<String, Method> calls = new HashMap<>();
    private final Set<Integer> quoted = new TreeSet<>();
    private final String[] sections;
    private String sentence = "";

    Edges() throws IOException {
        for (Method method : SolsticeBoys.class.getMethods()) {
            calls.put(method.getName(), method);
        }
        String document = Files.isReadable(DOCUMENT) ? Files.readString(DOCUMENT) : "";
        sections = document.replaceAll("\\s+", " ").split("## Promise \\d+: ");
    }

    /** What is due from here on is due by these words: of a promise, or of the terms and parts ahead of them (0). */
    void says(int promise, String words) {
        sentence = (promise == TERMS ? "terms" : "promise " + promise) + ", '" + words + "': ";
        quoted.add(promise);
        if (sections.length > 1) {
            checks.isTrue(sentence + "stands in the document", sections[promise].contains(words));
        }
    }

    void due(String what, long got, long want) {
        checks.due(sentence + what, got, want);
    }

    void end() {
        sentence = "";
        for (int promise = TERMS; promise <= PROMISES; promise++) {
            checks.isTrue("a sentence of promise " + promise + " is tested", quoted.contains(promise));
        }
        checks.end();
    }

    /** A town behind some use: sheets of each lane (one of no cells, one that has nothing), readings, a trace. */
    static SolsticeBoys lived(String text) {
        SolsticeBoys x = Checks.townOf(text);
        Checks.writeNumbers(x, 0, 0, 0, 1, 1);
        Checks.writeNumbers(x, 1, 1, 300, -7);
        Checks.writeNumbers(x, 2, 2);
        x.reading(0, 0, x.ofBoy(0, 1));
        x.exam(0, 0, 0, 0);
        x.exam(0, 0, 1, 0);
        x.tell(0);
        return x;
    }

    static SolsticeBoys lived() {
        return lived(Checks.FOUR);
    }

    long answer(SolsticeBoys x, String name, int... args) {
        try {
            Object[] boxed = Arrays.stream(args).boxed().toArray();
            return ((Number) calls.get(name).invoke(x, boxed)).longValue();
        } catch (ReflectiveOperationException e) {
            throw new IllegalStateException(told(name, args), e);
        }
    }

    static String told(String name, int... args) {
        return name + Arrays.toString(args).replace('[', '(').replace(']', ')');
    }

    void answers(SolsticeBoys x, long want, String name, int... args) {
        due(told(name, args), answer(x, name, args), want);
    }

    /** A call that is refused, or only asks, changes nothing; but fault() is 0 behind it, if it names FAULTS. */
    void stays(Supplier<SolsticeBoys> make, long want, String name, int... args) {
        SolsticeBoys x = make.get();
        String before = state(x);
        x.sheet(0, 0, -1);
        answers(x, want, name, args);
        due("fault() behind " + told(name, args), x.fault(), NAMES_FAULTS.contains(name) ? 0 : SIZE);
        due("all is as it was behind " + told(name, args), state(x).equals(before) ? 1 : 0, 1);
    }

    /** A call that comes to a fault changes nothing, and fault() tells it, whichever was told ahead of it. */
    void faulted(Supplier<SolsticeBoys> make, int fault, String name, int... args) {
        SolsticeBoys x = make.get();
        String before = state(x);
        if (fault == SIZE) {
            x.put(0, -1, 0);
        } else {
            x.sheet(0, 0, -1);
        }
        answers(x, name.equals("cell") ? SolsticeBoys.LOST : -10 - fault, name, args);
        due("fault() behind " + told(name, args), x.fault(), fault);
        due("all is as it was behind " + told(name, args), state(x).equals(before) ? 1 : 0, 1);
    }

    /** The argument at a place may be least .. most: both ends are not refused, all beyond them are. */
    void range(Supplier<SolsticeBoys> make, long refusal, int place, int least, int most, String name, int... args) {
        for (int end : new int[] {least, most}) {
            int[] taken = with(args, place, end);
            due(told(name, taken) + " is not refused", answer(make.get(), name, taken) == refusal ? 1 : 0, 0);
        }
        for (int beyond : new int[] {least - 1, most + 1, LEAST_INT, MOST_INT}) {
            stays(make, refusal, name, with(args, place, beyond));
        }
    }

    private static int[] with(int[] args, int place, int number) {
        int[] changed = args.clone();
        changed[place] = number;
        return changed;
    }

    /** All that can be seen of it but fault(); the readings by the sets that follow from them. */
    static String state(SolsticeBoys x) {
        StringBuilder s = new StringBuilder(Checks.state(x));
        int masters = x.many(1);
        for (int a = 0; a < masters; a++) {
            for (int b = 0; b < masters; b++) {
                s.append(' ').append(a == b ? 0 : x.debts(a, b));
            }
        }
        for (int b = x.many(0) - 1; b >= 0; b--) {
            s.append(' ').append(x.kinds(b));
        }
        return s.toString();
    }
}
