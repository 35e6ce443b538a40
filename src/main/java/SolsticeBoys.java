/** A town whose apprentices change masters at every solstice, each going on to whoever his master owes most. */
public final class SolsticeBoys {
    public static final int UNKNOWN = -1, OUTSIDE = -2, STATE = -3, FULL = -4, NONE = -9;
    public static final long LOST = Long.MIN_VALUE;

    private static final int NO_FAULT = 0, NULL_FAULT = 1, CAST_FAULT = 2, INDEX_FAULT = 3, SIZE_FAULT = 4;
    private static final int FAULT_BASE = -10, TEXT_FAULT_BASE = -100;

    private static final int LEAST_MASTERS = 2, MOST_MASTERS = 5, MOST_BOYS = 4, MOST_PENCE = 9;
    private static final int MOST_SOLSTICES = 60, MOST_SOLSTICES_TRIED = 20, MOST_STEPS_TOLD = 40;
    private static final int MOST_READINGS = 8, MOST_KNOWN = 40, ENOUGH_TO_BE_ABLE = 9;

    private static final int BOY = 0, CLEVER = 1, DUNCE = 2;
    private static final int BOY_LEARNS = 9, CLEVER_LEARNS_MORE = 3;

    private static final int BOY_BODY = 1, CLEVER_BODY = 2, DUNCE_BODY = 3, LENT_BODY = 4, DUNCE_CALLED_BODY = 5;
    private static final int CLEVER_TELLS_MORE = 100, DUNCE_IS_CALLED = 20, TRACE_FACTOR = 31;

    private static final int SHEETS = 4, MOST_CELLS = 60;
    private static final int NO_LANE = -1, BYTES = 0, SHORTS = 1, INTS = 2;

    private final Town standing = new Town();
    // What is only supposed (a forged note, a paid debt) is tried here, so that no query touches the standing town.
    private final Town trial = new Town();
    private final Reading[] readings = new Reading[MOST_READINGS];
    private int readingCount = 0;
    private final Sheet[] sheets = new Sheet[SHEETS];
    private int traced = 0;
    private int latestFault = NO_FAULT;

    public SolsticeBoys() {
        for (int k = 0; k < MOST_READINGS; k++) {
            readings[k] = new Reading();
        }
        for (int k = 0; k < SHEETS; k++) {
            sheets[k] = new Sheet();
        }
    }

    // ---- 1 the town

    public int town(int sheet, int lane, int i, int n) {
        if (!isSheet(sheet)) {
            return refused(UNKNOWN);
        }
        if (!isLane(lane)) {
            return refused(OUTSIDE);
        }
        int fault = sheets[sheet].faultOfTaking(lane, i, n);
        if (fault != NO_FAULT) {
            return faulted(fault);
        }
        latestFault = NO_FAULT;
        TownText text = new TownText(sheets[sheet], i, n);
        int firstFault = text.firstFault();
        if (firstFault != NONE) {
            return TEXT_FAULT_BASE - firstFault;
        }
        text.settle(standing);
        readingCount = 0;
        return standing.boys;
    }

    public int ofBoy(int b, int what) {
        if (!standing.hasBoy(b)) {
            return UNKNOWN;
        }
        switch (what) {
            case 0:
                return standing.kindOf[b];
            case 1:
                return standing.boundTo[b];
            case 2:
                return learning(standing.kindOf[b]);
            default:
                return OUTSIDE;
        }
    }

    public int owes(int a, int b) {
        if (!standing.hasMaster(a) || !standing.hasMaster(b)) {
            return UNKNOWN;
        }
        return standing.debt(a, b);
    }

    public int owe(int a, int b, int v) {
        if (!standing.hasDebt(a, b)) {
            return UNKNOWN;
        }
        if (!isWithin(v, MOST_PENCE)) {
            return OUTSIDE;
        }
        int before = standing.debt(a, b);
        standing.setDebt(a, b, v);
        return before;
    }

    public int bind(int b, int m) {
        if (!standing.hasBoy(b) || !standing.hasMaster(m)) {
            return UNKNOWN;
        }
        int before = standing.boundTo[b];
        standing.boundTo[b] = m;
        return before;
    }

    // ---- 2 solstices

    public int next(int m) {
        if (!standing.hasMaster(m)) {
            return UNKNOWN;
        }
        return standing.nextOf(m);
    }

    public int where(int b, int n) {
        if (!standing.hasBoy(b)) {
            return UNKNOWN;
        }
        if (!isWithin(n, MOST_SOLSTICES)) {
            return OUTSIDE;
        }
        return standing.masterBehind(b, n);
    }

    public int knows(int b, int m, int n) {
        if (!standing.hasBoy(b) || !standing.hasMaster(m)) {
            return UNKNOWN;
        }
        if (!isWithin(n, MOST_SOLSTICES)) {
            return OUTSIDE;
        }
        return standing.knownBehind(b, m, n);
    }

    public int able(int n) {
        if (!isWithin(n, MOST_SOLSTICES)) {
            return OUTSIDE;
        }
        if (standing.masters == 0) {
            return STATE;
        }
        int trades = 0;
        for (int b = 0; b < standing.boys; b++) {
            int master = standing.masterBehind(b, n);
            if (standing.knownBehind(b, master, n) >= ENOUGH_TO_BE_ABLE) {
                trades |= 1 << master;
            }
        }
        return trades;
    }

    public int ring(int m) {
        if (!standing.hasMaster(m)) {
            return UNKNOWN;
        }
        // Behind as many steps as there are masters one is on the ring for sure.
        int onRing = standing.stepsFrom(m, standing.masters);
        return standing.metFrom(onRing);
    }

    public int home(int b) {
        if (!standing.hasBoy(b)) {
            return UNKNOWN;
        }
        for (int n = 1; n <= standing.masters; n++) {
            if (standing.masterBehind(b, n) == standing.boundTo[b]) {
                return n;
            }
        }
        return NONE;
    }

    public int never(int b) {
        if (!standing.hasBoy(b)) {
            return UNKNOWN;
        }
        return standing.allMasters() & ~standing.metFrom(standing.boundTo[b]);
    }

    public int walk(int b, int sheet, int lane, int i, int n) {
        if (!standing.hasBoy(b) || !isSheet(sheet)) {
            return refused(UNKNOWN);
        }
        if (!isLane(lane) || !isWithin(n, MOST_STEPS_TOLD)) {
            return refused(OUTSIDE);
        }
        Sheet told = sheets[sheet];
        int fault = told.faultOfTaking(lane, i, n);
        if (fault != NO_FAULT) {
            return faulted(fault);
        }
        latestFault = NO_FAULT;
        return allMastersTold(told, i, n) ? firstWrong(b, told, i, n) : UNKNOWN;
    }

    private boolean allMastersTold(Sheet told, int i, int n) {
        for (int step = 0; step < n; step++) {
            if (!standing.hasMaster(told.cells[i + step])) {
                return false;
            }
        }
        return true;
    }

    private int firstWrong(int b, Sheet told, int i, int n) {
        for (int step = 0; step < n; step++) {
            if (told.cells[i + step] != standing.masterBehind(b, step)) {
                return step;
            }
        }
        return NONE;
    }

    // ---- 3 notes

    public int forge(int b, int m, int n, int what) {
        if (!standing.hasBoy(b) || !standing.hasMaster(m)) {
            return UNKNOWN;
        }
        if (!isWithin(n, MOST_SOLSTICES_TRIED) || !isWithin(what, 2)) {
            return OUTSIDE;
        }
        if (standing.masterBehind(b, n) == m) {
            return what == 0 ? 0 : NONE;
        }
        int least = NONE, ower = NONE, owed = NONE;
        trial.takeOver(standing);
        for (int from = 0; from < standing.masters; from++) {
            for (int to = 0; to < standing.masters; to++) {
                int more = forgedPence(from, to);
                boolean fewer = more != NONE && (least == NONE || more < least);
                if (fewer && trial.masterBehind(b, n) == m) {
                    least = more;
                    ower = from;
                    owed = to;
                }
                trial.setDebt(from, to, standing.debt(from, to));
            }
        }
        return what == 0 ? least : what == 1 ? ower : owed;
    }

    // Raises the debt in the trial until it turns the boys of the one who owes; more pence than that turn nobody else.
    private int forgedPence(int from, int to) {
        if (from == to || standing.nextOf(from) == to) {
            return NONE;
        }
        int before = standing.debt(from, to);
        for (int pence = before + 1; pence <= MOST_PENCE; pence++) {
            trial.setDebt(from, to, pence);
            if (trial.nextOf(from) == to) {
                return pence - before;
            }
        }
        return NONE;
    }

    // ---- 4 where boys were, what they knew

    public int reading(int b, int n, int m) {
        if (!standing.hasBoy(b) || !standing.hasMaster(m)) {
            return UNKNOWN;
        }
        if (!isWithin(n, MOST_SOLSTICES_TRIED)) {
            return OUTSIDE;
        }
        return noted(b, n, m, Reading.WAS_WITH);
    }

    public int exam(int b, int n, int m, int v) {
        if (!standing.hasBoy(b) || !standing.hasMaster(m)) {
            return UNKNOWN;
        }
        if (!isWithin(n, MOST_SOLSTICES_TRIED) || !isWithin(v, MOST_KNOWN)) {
            return OUTSIDE;
        }
        return noted(b, n, m, v);
    }

    private int noted(int b, int n, int m, int known) {
        if (readingCount >= MOST_READINGS) {
            return FULL;
        }
        readings[readingCount].note(b, n, m, known);
        readingCount++;
        return readingCount - 1;
    }

    public int back(int k) {
        if (!isWithin(k, readingCount)) {
            return OUTSIDE;
        }
        readingCount -= k;
        return readingCount;
    }

    public int debts(int a, int b) {
        if (!standing.hasDebt(a, b)) {
            return UNKNOWN;
        }
        trial.takeOver(standing);
        int set = 0;
        for (int pence = 0; pence <= MOST_PENCE; pence++) {
            trial.setDebt(a, b, pence);
            set |= bitIfTrialFits(pence);
        }
        return set;
    }

    public int bound(int b) {
        if (!standing.hasBoy(b)) {
            return UNKNOWN;
        }
        trial.takeOver(standing);
        int set = 0;
        for (int master = 0; master < standing.masters; master++) {
            trial.boundTo[b] = master;
            set |= bitIfTrialFits(master);
        }
        return set;
    }

    public int kinds(int b) {
        if (!standing.hasBoy(b)) {
            return UNKNOWN;
        }
        trial.takeOver(standing);
        int set = 0;
        for (int kind = BOY; kind <= DUNCE; kind++) {
            trial.kindOf[b] = kind;
            set |= bitIfTrialFits(kind);
        }
        return set;
    }

    private int bitIfTrialFits(int number) {
        for (int k = 0; k < readingCount; k++) {
            if (!readings[k].isSoIn(trial)) {
                return 0;
            }
        }
        return 1 << number;
    }

    public long odds(int b, int m, int n, int which) {
        if (!standing.hasBoy(b) || !standing.hasMaster(m)) {
            return LOST;
        }
        if (!isWithin(n, MOST_SOLSTICES_TRIED) || !isWithin(which, 1)) {
            return LOST;
        }
        int lower = 1 << standing.masters;
        int upper = 0;
        for (int payers = 0; payers < lower; payers++) {
            tryPaidBy(payers);
            if (trial.masterBehind(b, n) == m) {
                upper++;
            }
        }
        // The lower number is a power of two, so halving is all that least terms can need.
        while (lower > 1 && upper % 2 == 0) {
            upper /= 2;
            lower /= 2;
        }
        return which == 0 ? upper : lower;
    }

    private void tryPaidBy(int payers) {
        trial.takeOver(standing);
        for (int master = 0; master < standing.masters; master++) {
            if ((payers >> master & 1) == 1) {
                trial.setDebt(master, standing.nextOf(master), 0);
            }
        }
    }

    // ---- 5 sheets, parts

    public int sheet(int k, int lane, int n) {
        if (!isSheet(k)) {
            return refused(UNKNOWN);
        }
        if (!isLane(lane) || n > MOST_CELLS) {
            return refused(OUTSIDE);
        }
        if (n < 0) {
            return faulted(SIZE_FAULT);
        }
        latestFault = NO_FAULT;
        sheets[k].renew(lane, n);
        return 1;
    }

    public int lose(int k) {
        if (!isSheet(k)) {
            return UNKNOWN;
        }
        if (sheets[k].hasNothing()) {
            return 0;
        }
        sheets[k].renew(NO_LANE, 0);
        return 1;
    }

    public int put(int k, int i, int v) {
        if (!isSheet(k)) {
            return refused(UNKNOWN);
        }
        if (sheets[k].hasNothing()) {
            return faulted(NULL_FAULT);
        }
        if (!sheets[k].hasCells(i, 1)) {
            return faulted(INDEX_FAULT);
        }
        latestFault = NO_FAULT;
        sheets[k].cells[i] = sheets[k].cut(v);
        return 1;
    }

    public long cell(int k, int i, int lane) {
        if (!isSheet(k) || !isLane(lane)) {
            latestFault = NO_FAULT;
            return LOST;
        }
        latestFault = sheets[k].faultOfTaking(lane, i, 1);
        if (latestFault != NO_FAULT) {
            return LOST;
        }
        return sheets[k].cells[i];
    }

    public int copy(int k, int i, int other, int j, int n) {
        if (!isSheet(k) || !isSheet(other)) {
            return refused(UNKNOWN);
        }
        Sheet from = sheets[k], to = sheets[other];
        if (from.hasNothing() || to.hasNothing()) {
            return faulted(NULL_FAULT);
        }
        if (from.lane != to.lane) {
            return faulted(CAST_FAULT);
        }
        if (!from.hasCells(i, n) || !to.hasCells(j, n)) {
            return faulted(INDEX_FAULT);
        }
        latestFault = NO_FAULT;
        System.arraycopy(from.cells, i, to.cells, j, n);
        return n;
    }

    public int tell(int b) {
        if (!standing.hasBoy(b)) {
            return UNKNOWN;
        }
        switch (standing.kindOf[b]) {
            case CLEVER:
                return toldByClever(b);
            case DUNCE:
                return toldByDunce(b);
            default:
                return toldByBoy(b);
        }
    }

    private int toldByBoy(int b) {
        leaveTrace(BOY_BODY);
        return standing.boundTo[b];
    }

    private int toldByClever(int b) {
        leaveTrace(CLEVER_BODY);
        return toldByBoy(b) + CLEVER_TELLS_MORE;
    }

    private int toldByDunce(int b) {
        leaveTrace(DUNCE_BODY);
        int clever = toldByClever(b);
        return clever + toldByBoy(b);
    }

    public int call(int b) {
        if (!standing.hasBoy(b)) {
            return UNKNOWN;
        }
        if (standing.kindOf[b] == DUNCE) {
            leaveTrace(DUNCE_CALLED_BODY);
            return DUNCE_IS_CALLED;
        }
        leaveTrace(LENT_BODY);
        return b;
    }

    public int as(int b, int kind) {
        if (!standing.hasBoy(b)) {
            return refused(UNKNOWN);
        }
        if (!isWithin(kind, DUNCE)) {
            return refused(OUTSIDE);
        }
        // Each kind is also all the kinds below it.
        if (kind > standing.kindOf[b]) {
            return faulted(CAST_FAULT);
        }
        latestFault = NO_FAULT;
        return 1;
    }

    public int trace() {
        return traced;
    }

    public int fault() {
        return latestFault;
    }

    public int many(int what) {
        switch (what) {
            case 0:
                return standing.boys;
            case 1:
                return standing.masters;
            case 2:
                return readingCount;
            default:
                return OUTSIDE;
        }
    }

    private void leaveTrace(int body) {
        traced = TRACE_FACTOR * traced + body;
    }

    private int refused(int refusal) {
        latestFault = NO_FAULT;
        return refusal;
    }

    private int faulted(int fault) {
        latestFault = fault;
        return FAULT_BASE - fault;
    }

    private static boolean isWithin(int number, int most) {
        return number >= 0 && number <= most;
    }

    private static boolean isSheet(int k) {
        return k >= 0 && k < SHEETS;
    }

    private static boolean isLane(int lane) {
        return lane >= BYTES && lane <= INTS;
    }

    private static int learning(int kind) {
        switch (kind) {
            case CLEVER:
                return BOY_LEARNS + CLEVER_LEARNS_MORE;
            case DUNCE:
                return BOY_LEARNS / 2;
            default:
                return BOY_LEARNS;
        }
    }

    /** Masters, what they owe, and boys; whoever calls with a master or a boy has asked first whether there is one. */
    private static final class Town {
        private final int[] pence = new int[MOST_MASTERS * MOST_MASTERS];
        private final int[] kindOf = new int[MOST_BOYS];
        private final int[] boundTo = new int[MOST_BOYS];
        private int masters = 0;
        private int boys = 0;

        boolean hasMaster(int m) {
            return m >= 0 && m < masters;
        }

        boolean hasBoy(int b) {
            return b >= 0 && b < boys;
        }

        boolean hasDebt(int a, int b) {
            return hasMaster(a) && hasMaster(b) && a != b;
        }

        int allMasters() {
            return (1 << masters) - 1;
        }

        int debt(int a, int b) {
            return pence[a * MOST_MASTERS + b];
        }

        void setDebt(int a, int b, int v) {
            pence[a * MOST_MASTERS + b] = v;
        }

        void takeOver(Town other) {
            System.arraycopy(other.pence, 0, pence, 0, MOST_MASTERS * MOST_MASTERS);
            System.arraycopy(other.kindOf, 0, kindOf, 0, MOST_BOYS);
            System.arraycopy(other.boundTo, 0, boundTo, 0, MOST_BOYS);
            masters = other.masters;
            boys = other.boys;
        }

        int nextOf(int m) {
            int most = 0;
            int creditor = m;
            for (int other = 0; other < masters; other++) {
                if (debt(m, other) > most) {
                    most = debt(m, other);
                    creditor = other;
                }
            }
            return creditor;
        }

        int stepsFrom(int m, int n) {
            int master = m;
            for (int step = 0; step < n; step++) {
                master = nextOf(master);
            }
            return master;
        }

        int metFrom(int m) {
            int set = 0;
            int master = m;
            for (int step = 0; step < masters; step++) {
                set |= 1 << master;
                master = nextOf(master);
            }
            return set;
        }

        int masterBehind(int b, int n) {
            return stepsFrom(boundTo[b], n);
        }

        int knownBehind(int b, int trade, int n) {
            int known = 0;
            int master = boundTo[b];
            for (int solstice = 0; solstice < n; solstice++) {
                known -= known / 3;
                if (master == trade) {
                    known += learning(kindOf[b]);
                }
                master = nextOf(master);
            }
            return known;
        }
    }

    /** The text of a town; what stands at a place follows from the place alone, once the number of masters is told. */
    private static final class TownText {
        private static final int HEAD = 2, CODES_OF_BOY = 3;

        private final Sheet sheet;
        private final int start;
        private final int count;
        private final int masters;
        private final int firstBoy;

        TownText(Sheet sheet, int start, int count) {
            this.sheet = sheet;
            this.start = start;
            this.count = count;
            int told = count > 1 ? sheet.cells[start + 1] - '0' : 0;
            masters = told >= LEAST_MASTERS && told <= MOST_MASTERS ? told : 0;
            firstBoy = HEAD + masters * (masters + 1);
        }

        int code(int place) {
            return sheet.cells[start + place];
        }

        int firstFault() {
            for (int place = 0; place < count; place++) {
                if (!fits(place)) {
                    return place;
                }
            }
            int inBoys = count - firstBoy;
            return inBoys > 0 && inBoys % CODES_OF_BOY == 0 ? NONE : count;
        }

        private boolean fits(int place) {
            if (place == 0) {
                return code(0) == 'j';
            }
            if (place == 1) {
                return masters > 0;
            }
            return place < firstBoy ? fitsDebt(place) : fitsBoy(place);
        }

        private boolean fitsDebt(int place) {
            int row = (place - HEAD) / (masters + 1);
            int column = (place - HEAD) % (masters + 1);
            if (column == 0) {
                return code(place) == ',';
            }
            boolean toHimself = column - 1 == row;
            return code(place) >= '0' && code(place) <= (toHimself ? '0' : '9');
        }

        private boolean fitsBoy(int place) {
            int boy = (place - firstBoy) / CODES_OF_BOY;
            switch ((place - firstBoy) % CODES_OF_BOY) {
                case 0:
                    return code(place) == ';' && boy < MOST_BOYS;
                case 1:
                    return code(place) >= 'b' && code(place) <= 'd';
                default:
                    return code(place) >= '0' && code(place) < '0' + masters;
            }
        }

        /** Only of a text without a fault. */
        void settle(Town town) {
            town.masters = masters;
            for (int a = 0; a < masters; a++) {
                for (int b = 0; b < masters; b++) {
                    town.setDebt(a, b, code(HEAD + a * (masters + 1) + 1 + b) - '0');
                }
            }
            town.boys = (count - firstBoy) / CODES_OF_BOY;
            for (int b = 0; b < town.boys; b++) {
                town.kindOf[b] = code(firstBoy + b * CODES_OF_BOY + 1) - 'b';
                town.boundTo[b] = code(firstBoy + b * CODES_OF_BOY + 2) - '0';
            }
        }
    }

    private static final class Reading {
        // Stands for what a boy knew in a reading that says with whom he was.
        private static final int WAS_WITH = -1;

        private int boy = 0;
        private int behind = 0;
        private int master = 0;
        private int known = WAS_WITH;

        void note(int b, int n, int m, int v) {
            boy = b;
            behind = n;
            master = m;
            known = v;
        }

        boolean isSoIn(Town town) {
            if (known == WAS_WITH) {
                return town.masterBehind(boy, behind) == master;
            }
            return town.knownBehind(boy, master, behind) == known;
        }
    }

    /** Its cells are made once, for the longest row, so that new rows cost no room. */
    private static final class Sheet {
        private final int[] cells = new int[MOST_CELLS];
        private int lane = NO_LANE;
        private int length = 0;

        boolean hasNothing() {
            return lane == NO_LANE;
        }

        void renew(int newLane, int newLength) {
            lane = newLane;
            length = newLength;
            for (int i = 0; i < MOST_CELLS; i++) {
                cells[i] = 0;
            }
        }

        boolean hasCells(int i, int n) {
            return i >= 0 && i <= length && n >= 0 && n <= length - i;
        }

        int cut(int v) {
            switch (lane) {
                case BYTES:
                    return (byte) v;
                case SHORTS:
                    return (short) v;
                default:
                    return v;
            }
        }

        int faultOfTaking(int asLane, int i, int n) {
            if (hasNothing()) {
                return NULL_FAULT;
            }
            if (lane != asLane) {
                return CAST_FAULT;
            }
            if (n < 0) {
                return SIZE_FAULT;
            }
            return hasCells(i, n) ? NO_FAULT : INDEX_FAULT;
        }
    }
}
