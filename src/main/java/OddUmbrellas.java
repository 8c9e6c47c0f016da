/** An office of lost umbrellas that matches claims by odd details. */
public final class OddUmbrellas {
    public static final int INVALID_ARGUMENT = -1000001;
    public static final int NOT_POSSIBLE = -1000002;
    public static final int LIMIT_REACHED = -1000003;
    public static final int NOT_FOUND = -1000004;

    private static final int NONE = -1;
    private static final int NOT_TOLD = -1;
    private static final int DETAILS = 4;
    private static final int VALUES = 10;

    /** Umbrellas, and claims, that there are at most. */
    private static final int MOST = 12;
    private static final int PAIRS = 144;
    private static final int ODDNESS_OF_NONE = 13;
    private static final int POINTS_AHEAD = 1000;

    /** Cells of an umbrella's or a claim's row behind its four values. */
    private static final int AGE = 4;
    private static final int DOUBTS = 5;
    private static final int ROW_CELLS = 6;

    private static final int MOST_ENTRIES = 10;
    private static final int ENTRY_PARTS = 4;
    private static final int HANDED_OUT = 0;
    private static final int WAS_SOLD = 1;
    private static final int HAS_LAPSED = 2;

    private static final int MISSES_ALLOWED = 0;
    private static final int OFF_FOR_MISS = 1;
    private static final int OFF_FOR_DOUBT = 2;
    private static final int POINTS_TO_SUIT = 3;
    private static final int COINS_A_WEEK = 4;
    private static final int WEEKS_KEPT = 5;
    private static final int COINS_OF_SALE = 6;
    private static final int SETTINGS = 7;
    private static final int[] FIRST_SETTINGS = {1, 4, 2, 8, 1, 6, 5};
    private static final int[] LEAST_SETTINGS = {0, 0, 0, 1, 0, 1, 1};
    private static final int[] GREATEST_SETTINGS = {3, 20, 20, 48, 9, 20, 20};

    /** Sums so far, under the numbers by which count() asks for them. */
    private static final int SUM_WEEKS = 0;
    private static final int SUM_FOUND = 5;
    private static final int SUM_CAME = 6;
    private static final int SUM_HANDED = 7;
    private static final int SUM_SOLD = 8;
    private static final int SUM_LAPSED = 9;
    private static final int SUM_COINS = 10;
    private static final int SUM_DROPPED = 11;
    private static final int SUMS = 12;

    /** The other numbers by which count() asks. */
    private static final int COUNT_UMBRELLAS = 1;
    private static final int COUNT_CLAIMS = 2;
    private static final int COUNT_PAIRS = 3;
    private static final int COUNT_PAIRS_ASKED = 4;
    private static final int COUNT_ENTRIES = 12;
    private static final int COUNT_STATES = 13;
    private static final int COUNT_SIGNS = 14;
    private static final int COUNT_SETTINGS = 20;

    private static final int MOST_WEEKS = 999;
    private static final int MOST_WEEKS_AT_ONCE = 20;
    private static final int MOST_STATES = 4;

    private static final int MOST_SIGNS = 60;
    private static final int FIRST_SIGN = 32;
    private static final int LAST_SIGN = 126;
    private static final int ORDER_FIND = 0;
    private static final int ORDER_CLAIM = 1;
    private static final int ORDER_TELL = 2;
    private static final int ORDER_WEEK = 3;
    private static final int ORDER_HAND = 4;
    private static final int BAD_FORM = 1;
    private static final int BAD_CALL = 2;

    private final Office office = new Office();

    /** An office for what would be, so that the real one stays as it is. */
    private final Office trial = new Office();
    private final Matching matching = new Matching();

    /** One place more than states are kept: the next change's state goes there ahead of the change. */
    private final Office[] history = new Office[MOST_STATES + 1];
    private int states = 0;

    private final Text text = new Text();
    private int ordersTried = 0;
    private int faultPlace = NONE;
    private int faultReason = NONE;
    private int faultCause = NONE;

    public OddUmbrellas() {
        for (int i = 0; i < history.length; i++) {
            history[i] = new Office();
        }
    }

    // ---- umbrellas, claims

    public int find(int first, int second, int third, int fourth) {
        keepState();
        return recorded(office.takeUmbrella(first, second, third, fourth));
    }

    public int claim(int first, int second, int third, int fourth) {
        keepState();
        return recorded(office.takeClaim(first, second, third, fourth));
    }

    public int tell(int claim, int detail, int value) {
        keepState();
        return recorded(office.noteDetail(claim, detail, value));
    }

    public int drop(int claim) {
        keepState();
        return recorded(office.dropClaim(claim));
    }

    // ---- weeks, handing out

    public int weeks(int many) {
        keepState();
        return recorded(office.passWeeks(many, MOST_WEEKS));
    }

    public int hand() {
        keepState();
        matching.matchAll(office);
        return recorded(office.handOut(matching));
    }

    public int set(int what, int value) {
        keepState();
        return recorded(office.changeSetting(what, value));
    }

    // ---- what there is

    public int umbrella(int umbrella, int what) {
        if (!office.umbrellas.has(umbrella) || what < 0 || what > 8) {
            return INVALID_ARGUMENT;
        }
        if (what <= AGE) {
            return office.umbrellas.cell(umbrella, what);
        }
        if (what == 8) {
            return office.oddnessTogether(umbrella);
        }
        matching.matchAll(office);
        if (what == 7) {
            return matching.claimsSuiting(umbrella);
        }
        int claim = matching.claimMatched(umbrella);
        if (claim == NONE) {
            return NOT_FOUND;
        }
        return what == 5 ? claim : matching.worthOf(umbrella, claim);
    }

    public int claimOf(int claim, int what) {
        if (!office.claims.has(claim) || what < 0 || what > 7) {
            return INVALID_ARGUMENT;
        }
        if (what < DETAILS) {
            int told = office.claims.cell(claim, what);
            return told == NOT_TOLD ? NOT_FOUND : told;
        }
        if (what == 4) {
            return office.claims.cell(claim, AGE);
        }
        if (what == 7) {
            return office.claims.cell(claim, DOUBTS);
        }
        matching.matchAll(office);
        return what == 5 ? orNotFound(matching.umbrellaMatched(claim)) : matching.umbrellasSuiting(claim);
    }

    public int points(int umbrella, int claim) {
        if (!isPair(umbrella, claim)) {
            return INVALID_ARGUMENT;
        }
        matching.weighAll(office);
        return POINTS_AHEAD + matching.worthOf(umbrella, claim);
    }

    public int having(int detail, int value) {
        if (!isDetail(detail) || !isValue(value)) {
            return INVALID_ARGUMENT;
        }
        return office.umbrellasWith(detail, value);
    }

    public int book(int ago, int what) {
        if (ago < 0 || what < 0 || what >= ENTRY_PARTS) {
            return INVALID_ARGUMENT;
        }
        int entry = office.entries.size - 1 - ago;
        return entry < 0 ? NOT_FOUND : office.entries.cell(entry, what);
    }

    // ---- what would be

    public int why(int umbrella, int claim) {
        if (!isPair(umbrella, claim)) {
            return INVALID_ARGUMENT;
        }
        matching.matchAll(office);
        return matching.reasonAgainst(umbrella, claim, office);
    }

    public int ifTold(int claim, int detail, int value) {
        trial.become(office);
        int answer = trial.noteDetail(claim, detail, value);
        if (answer < 0) {
            return answer;
        }
        matching.matchAll(trial);
        return orNotFound(matching.umbrellaMatched(claim));
    }

    public int oddest() {
        int best = NONE;
        int most = 0;
        for (int umbrella = 0; umbrella < office.umbrellas.size; umbrella++) {
            int oddness = office.oddnessTogether(umbrella);
            if (best == NONE || oddness > most) {
                best = umbrella;
                most = oddness;
            }
        }
        return orNotFound(best);
    }

    public int ifWeeks(int many, int what) {
        if (!isWeeksAtOnce(many) || what < 0 || what > 2) {
            return INVALID_ARGUMENT;
        }
        trial.become(office);
        // Only weeks that really go by are limited.
        trial.passWeeks(many, MOST_WEEKS + MOST_WEEKS_AT_ONCE);
        if (what == 0) {
            return trial.sum(SUM_SOLD) - office.sum(SUM_SOLD);
        }
        if (what == 1) {
            return trial.sum(SUM_LAPSED) - office.sum(SUM_LAPSED);
        }
        matching.matchAll(trial);
        return matching.pairs;
    }

    public int mean() {
        matching.matchAll(office);
        int pairs = matching.pairs;
        if (pairs <= 0) {
            return NOT_FOUND;
        }
        return bitsOf((float) matching.worthOfMatched() / (float) pairs);
    }

    public int count(int what) {
        if (what >= COUNT_SETTINGS && what < COUNT_SETTINGS + SETTINGS) {
            return office.setting(what - COUNT_SETTINGS);
        }
        switch (what) {
            case COUNT_UMBRELLAS:
                return office.umbrellas.size;
            case COUNT_CLAIMS:
                return office.claims.size;
            case COUNT_PAIRS:
                matching.matchAll(office);
                return matching.pairs;
            case COUNT_PAIRS_ASKED:
                matching.matchByAsking(office);
                return matching.pairs;
            case COUNT_ENTRIES:
                return office.entries.size;
            case COUNT_STATES:
                return states;
            case COUNT_SIGNS:
                return text.length;
            default:
                return what >= 0 && what < SUMS ? office.sum(what) : INVALID_ARGUMENT;
        }
    }

    public int undo() {
        if (states <= 0 || states > history.length) {
            return NOT_POSSIBLE;
        }
        states--;
        office.become(history[states]);
        return states;
    }

    // ---- texts

    public int type(int character) {
        if (character < FIRST_SIGN || character > LAST_SIGN) {
            return INVALID_ARGUMENT;
        }
        return text.append((char) character) ? text.length : LIMIT_REACHED;
    }

    public int clearText() {
        int length = text.length;
        text.length = 0;
        return length;
    }

    public int fault(int what) {
        if (what < 0 || what > 2) {
            return INVALID_ARGUMENT;
        }
        tryText();
        if (faultPlace == NONE) {
            return NOT_FOUND;
        }
        if (what == 0) {
            return faultPlace;
        }
        return what == 1 ? faultReason : faultCause;
    }

    public int play() {
        tryText();
        if (faultPlace != NONE) {
            return NOT_POSSIBLE;
        }
        keepState();
        office.become(trial);
        return recorded(ordersTried);
    }

    // ---- the history

    /** Writes the state behind the history's last one; it belongs to the history only once it is recorded. */
    private void keepState() {
        if (states >= 0 && states < history.length && history[states] != null) {
            history[states].become(office);
        }
    }

    /** Errors are below 0, and no change answers below 0. */
    private int recorded(int answer) {
        if (answer >= 0) {
            states++;
            if (states > MOST_STATES) {
                forgetOldestState();
            }
        }
        return answer;
    }

    private void forgetOldestState() {
        Office oldest = history[0];
        for (int i = 1; i < history.length; i++) {
            history[i - 1] = history[i];
        }
        history[history.length - 1] = oldest;
        states--;
    }

    // ---- the orders of the text

    /** Does the orders of the text in the trial office, up to the first one that is not possible. */
    private void tryText() {
        trial.become(office);
        ordersTried = 0;
        faultPlace = NONE;
        int start = 0;
        while (start < text.length && ordersTried < MOST_SIGNS) {
            if (!text.readOrder(start)) {
                tellFault(start, BAD_FORM, text.place - start);
                return;
            }
            int answer = doOrder(trial);
            if (answer < 0) {
                tellFault(start, BAD_CALL, answer);
                return;
            }
            ordersTried++;
            start = text.place;
        }
    }

    private void tellFault(int place, int reason, int cause) {
        faultPlace = place;
        faultReason = reason;
        faultCause = cause;
    }

    /** Does the order that was read last; its answer is that of the call. */
    private int doOrder(Office where) {
        switch (text.kind) {
            case ORDER_FIND:
                return where.takeUmbrella(text.number(0), text.number(1), text.number(2), text.number(3));
            case ORDER_CLAIM:
                return where.takeClaim(text.number(0), text.number(1), text.number(2), text.number(3));
            case ORDER_TELL:
                return where.noteDetail(text.number(0), text.number(1), text.number(2));
            case ORDER_WEEK:
                return where.passWeeks(text.number(0), MOST_WEEKS);
            default:
                matching.matchAll(where);
                return where.handOut(matching);
        }
    }

    // ---- small things

    private boolean isPair(int umbrella, int claim) {
        return office.umbrellas.has(umbrella) && office.claims.has(claim);
    }

    private static boolean isDetail(int detail) {
        return detail >= 0 && detail < DETAILS;
    }

    private static boolean isValue(int value) {
        return value >= 0 && value < VALUES;
    }

    private static boolean isValueOrNotTold(int value) {
        return value == NOT_TOLD || isValue(value);
    }

    private static boolean isWeeksAtOnce(int many) {
        return many >= 1 && many <= MOST_WEEKS_AT_ONCE;
    }

    private static int orNotFound(int number) {
        return number == NONE ? NOT_FOUND : number;
    }

    /** The number at a place of a row, 0 beside the row. */
    private static int numberAt(int[] row, int place) {
        return place >= 0 && place < row.length ? row[place] : 0;
    }

    /**
     * The bits of a float of at least 1, put together by hand, as no function of the library may be used on floats.
     * Halving, and taking 1 off what lies between 1 and 2, are exact.
     */
    private static int bitsOf(float number) {
        float rest = number;
        int exponent = 127;
        for (int halvings = 0; halvings < 127 && rest >= 2.0f; halvings++) {
            rest = rest / 2.0f;
            exponent++;
        }
        int fraction = (int) ((rest - 1.0f) * 8388608.0f);
        return (exponent << 23) | fraction;
    }

    /** At most 12 rows of 6 numbers, in the order in which they came. */
    private static final class Rows {
        private final int[] cells = new int[MOST * ROW_CELLS];
        private int size = 0;

        boolean has(int row) {
            return row >= 0 && row < size;
        }

        int cell(int row, int column) {
            if (row < 0 || row >= size || column < 0 || column >= ROW_CELLS) {
                return 0;
            }
            int place = row * ROW_CELLS + column;
            return place >= 0 && place < cells.length ? cells[place] : 0;
        }

        void put(int row, int column, int number) {
            if (row < 0 || row >= size || column < 0 || column >= ROW_CELLS) {
                return;
            }
            int place = row * ROW_CELLS + column;
            if (place >= 0 && place < cells.length) {
                cells[place] = number;
            }
        }

        /** Adds a row of these four numbers, and 0 behind them; returns its number, NONE if there is no room. */
        int append(int first, int second, int third, int fourth) {
            int place = size * ROW_CELLS;
            if (place < 0 || place + ROW_CELLS > cells.length) {
                return NONE;
            }
            cells[place] = first;
            cells[place + 1] = second;
            cells[place + 2] = third;
            cells[place + 3] = fourth;
            cells[place + AGE] = 0;
            cells[place + DOUBTS] = 0;
            size++;
            return size - 1;
        }

        void remove(int row) {
            if (row < 0 || row >= size) {
                return;
            }
            for (int place = row * ROW_CELLS; place + ROW_CELLS < cells.length; place++) {
                cells[place] = cells[place + ROW_CELLS];
            }
            size--;
        }

        void become(Rows other) {
            if (other != null) {
                System.arraycopy(other.cells, 0, cells, 0, MOST * ROW_CELLS);
                size = other.size;
            }
        }
    }

    /** Everything that undo() brings back. */
    private static final class Office {
        private final Rows umbrellas = new Rows();
        private final Rows claims = new Rows();
        private final Rows entries = new Rows();
        private final int[] settings = new int[SETTINGS];
        private final int[] sums = new int[SUMS];

        Office() {
            System.arraycopy(FIRST_SETTINGS, 0, settings, 0, SETTINGS);
        }

        void become(Office other) {
            if (other != null) {
                umbrellas.become(other.umbrellas);
                claims.become(other.claims);
                entries.become(other.entries);
                System.arraycopy(other.settings, 0, settings, 0, SETTINGS);
                System.arraycopy(other.sums, 0, sums, 0, SUMS);
            }
        }

        int setting(int what) {
            return what >= 0 && what < settings.length ? settings[what] : 0;
        }

        int sum(int what) {
            return what >= 0 && what < sums.length ? sums[what] : 0;
        }

        private void addTo(int what, int many) {
            if (what >= 0 && what < sums.length) {
                sums[what] += many;
            }
        }

        int umbrellasWith(int detail, int value) {
            int many = 0;
            for (int umbrella = 0; umbrella < umbrellas.size; umbrella++) {
                if (umbrellas.cell(umbrella, detail) == value) {
                    many++;
                }
            }
            return many;
        }

        /** The oddness of the four values of an umbrella, together. */
        int oddnessTogether(int umbrella) {
            int together = 0;
            for (int detail = 0; detail < DETAILS; detail++) {
                together += ODDNESS_OF_NONE - umbrellasWith(detail, umbrellas.cell(umbrella, detail));
            }
            return together;
        }

        int takeUmbrella(int first, int second, int third, int fourth) {
            if (!isValue(first) || !isValue(second) || !isValue(third) || !isValue(fourth)) {
                return INVALID_ARGUMENT;
            }
            if (umbrellas.size >= MOST) {
                return LIMIT_REACHED;
            }
            addTo(SUM_FOUND, 1);
            return umbrellas.append(first, second, third, fourth);
        }

        int takeClaim(int first, int second, int third, int fourth) {
            if (!isValueOrNotTold(first) || !isValueOrNotTold(second)
                    || !isValueOrNotTold(third) || !isValueOrNotTold(fourth)) {
                return INVALID_ARGUMENT;
            }
            if (first == NOT_TOLD && second == NOT_TOLD && third == NOT_TOLD && fourth == NOT_TOLD) {
                return NOT_POSSIBLE;
            }
            if (claims.size >= MOST) {
                return LIMIT_REACHED;
            }
            addTo(SUM_CAME, 1);
            return claims.append(first, second, third, fourth);
        }

        int noteDetail(int claim, int detail, int value) {
            if (!claims.has(claim) || !isDetail(detail) || !isValue(value)) {
                return INVALID_ARGUMENT;
            }
            int before = claims.cell(claim, detail);
            int doubts = claims.cell(claim, DOUBTS);
            if (before != NOT_TOLD && before != value) {
                doubts++;
            }
            claims.put(claim, detail, value);
            claims.put(claim, DOUBTS, doubts);
            return doubts;
        }

        int dropClaim(int claim) {
            if (!claims.has(claim)) {
                return INVALID_ARGUMENT;
            }
            claims.remove(claim);
            addTo(SUM_DROPPED, 1);
            return claims.size;
        }

        int changeSetting(int what, int value) {
            if (what < 0 || what >= settings.length
                    || value < numberAt(LEAST_SETTINGS, what) || value > numberAt(GREATEST_SETTINGS, what)) {
                return INVALID_ARGUMENT;
            }
            int before = settings[what];
            settings[what] = value;
            return before;
        }

        /** Lets weeks go by, so that not more than the most will have gone by then; returns how many are sold. */
        int passWeeks(int many, int most) {
            if (!isWeeksAtOnce(many)) {
                return INVALID_ARGUMENT;
            }
            if (sum(SUM_WEEKS) + many > most) {
                return LIMIT_REACHED;
            }
            int soldBefore = sum(SUM_SOLD);
            for (int week = 0; week < many; week++) {
                addTo(SUM_WEEKS, 1);
                growOlder(umbrellas);
                growOlder(claims);
                endOld(umbrellas, WAS_SOLD, SUM_SOLD, setting(COINS_OF_SALE));
                endOld(claims, HAS_LAPSED, SUM_LAPSED, 0);
            }
            return sum(SUM_SOLD) - soldBefore;
        }

        private void growOlder(Rows rows) {
            for (int row = 0; row < rows.size; row++) {
                rows.put(row, AGE, rows.cell(row, AGE) + 1);
            }
        }

        /** Those that are too old are gone, by their numbers, each with an entry and these coins. */
        private void endOld(Rows rows, int kind, int sum, int coins) {
            int row = 0;
            for (int left = rows.size; left > 0; left--) {
                int age = rows.cell(row, AGE);
                if (age < setting(WEEKS_KEPT)) {
                    row++;
                } else {
                    rows.remove(row);
                    addTo(sum, 1);
                    enter(kind, age, coins);
                }
            }
        }

        /** Hands out what is matched; the matching is told of this office as it stands. */
        int handOut(Matching matched) {
            for (int umbrella = 0; umbrella < umbrellas.size; umbrella++) {
                if (matched.claimMatched(umbrella) != NONE) {
                    int age = umbrellas.cell(umbrella, AGE);
                    enter(HANDED_OUT, age, age * setting(COINS_A_WEEK));
                    addTo(SUM_HANDED, 1);
                }
            }
            // From the last ones on, so that the numbers of those ahead still stand.
            for (int umbrella = umbrellas.size - 1; umbrella >= 0; umbrella--) {
                if (matched.claimMatched(umbrella) != NONE) {
                    umbrellas.remove(umbrella);
                }
            }
            for (int claim = claims.size - 1; claim >= 0; claim--) {
                if (matched.umbrellaMatched(claim) != NONE) {
                    claims.remove(claim);
                }
            }
            return matched.pairs;
        }

        /** Writes an entry of the book; its coins are had then. */
        private void enter(int kind, int age, int coins) {
            if (entries.size >= MOST_ENTRIES) {
                entries.remove(0);
            }
            entries.append(sum(SUM_WEEKS), kind, age, coins);
            addTo(SUM_COINS, coins);
        }
    }

    /** The pairs of an office: their points, which of them suit, and which are matched. */
    private static final class Matching {
        /** Of each pair, under 12 times its umbrella and its claim: of two with as many points the lower is ahead. */
        private final int[] misses = new int[PAIRS];
        private final int[] worth = new int[PAIRS];
        private final boolean[] suiting = new boolean[PAIRS];
        private final boolean[] asked = new boolean[PAIRS];

        /** Of each value of a detail, under 10 times the detail and the value. */
        private final int[] oddness = new int[DETAILS * VALUES];
        private final int[] claimOfUmbrella = new int[MOST];
        private final int[] umbrellaOfClaim = new int[MOST];
        private int umbrellas = 0;
        private int claims = 0;
        private int pairs = 0;

        // ---- points

        void weighAll(Office office) {
            umbrellas = Math.min(office.umbrellas.size, MOST);
            claims = Math.min(office.claims.size, MOST);
            noteOddness(office);
            for (int umbrella = 0; umbrella < umbrellas; umbrella++) {
                for (int claim = 0; claim < claims; claim++) {
                    weigh(umbrella, claim, office);
                }
            }
        }

        private void noteOddness(Office office) {
            for (int place = 0; place < oddness.length; place++) {
                oddness[place] = ODDNESS_OF_NONE;
            }
            for (int umbrella = 0; umbrella < umbrellas; umbrella++) {
                for (int detail = 0; detail < DETAILS; detail++) {
                    int place = detail * VALUES + office.umbrellas.cell(umbrella, detail);
                    if (place >= 0 && place < oddness.length) {
                        oddness[place]--;
                    }
                }
            }
        }

        private void weigh(int umbrella, int claim, Office office) {
            int missed = 0;
            int fitting = 0;
            for (int detail = 0; detail < DETAILS; detail++) {
                int told = office.claims.cell(claim, detail);
                if (told == office.umbrellas.cell(umbrella, detail)) {
                    fitting += numberAt(oddness, detail * VALUES + told);
                } else if (told != NOT_TOLD) {
                    missed++;
                }
            }
            int together = fitting - missed * office.setting(OFF_FOR_MISS)
                    - office.claims.cell(claim, DOUBTS) * office.setting(OFF_FOR_DOUBT);
            int pair = pairOf(umbrella, claim);
            if (pair >= 0 && pair < PAIRS) {
                misses[pair] = missed;
                worth[pair] = together;
                suiting[pair] = missed <= office.setting(MISSES_ALLOWED)
                        && together >= office.setting(POINTS_TO_SUIT);
            }
        }

        /** The place of a pair in the rows of pairs, NONE if there is no such pair. */
        private int pairOf(int umbrella, int claim) {
            if (umbrella < 0 || umbrella >= umbrellas || claim < 0 || claim >= claims) {
                return NONE;
            }
            int pair = umbrella * MOST + claim;
            return pair >= 0 && pair < PAIRS ? pair : NONE;
        }

        int worthOf(int umbrella, int claim) {
            return numberAt(worth, pairOf(umbrella, claim));
        }

        private boolean suits(int umbrella, int claim) {
            int pair = pairOf(umbrella, claim);
            return pair >= 0 && pair < PAIRS && suiting[pair];
        }

        int claimsSuiting(int umbrella) {
            int many = 0;
            for (int claim = 0; claim < claims; claim++) {
                if (suits(umbrella, claim)) {
                    many++;
                }
            }
            return many;
        }

        int umbrellasSuiting(int claim) {
            int many = 0;
            for (int umbrella = 0; umbrella < umbrellas; umbrella++) {
                if (suits(umbrella, claim)) {
                    many++;
                }
            }
            return many;
        }

        // ---- pair by pair

        void matchAll(Office office) {
            weighAll(office);
            matchNone();
            for (int round = 0; round < MOST; round++) {
                int best = bestFreePair();
                if (best == NONE) {
                    return;
                }
                join(best / MOST, best % MOST);
            }
        }

        private void matchNone() {
            for (int i = 0; i < claimOfUmbrella.length; i++) {
                claimOfUmbrella[i] = NONE;
            }
            for (int i = 0; i < umbrellaOfClaim.length; i++) {
                umbrellaOfClaim[i] = NONE;
            }
            pairs = 0;
        }

        private int bestFreePair() {
            int best = NONE;
            for (int umbrella = 0; umbrella < umbrellas; umbrella++) {
                if (claimMatched(umbrella) != NONE) {
                    continue;
                }
                for (int claim = 0; claim < claims; claim++) {
                    if (umbrellaMatched(claim) == NONE && suits(umbrella, claim)) {
                        best = aheadOf(pairOf(umbrella, claim), best);
                    }
                }
            }
            return best;
        }

        /** That of two pairs that is ahead of the other one; NONE is behind all. */
        private int aheadOf(int one, int other) {
            if (one < 0 || one >= PAIRS) {
                return other;
            }
            if (other < 0 || other >= PAIRS) {
                return one;
            }
            if (worth[one] != worth[other]) {
                return worth[one] > worth[other] ? one : other;
            }
            return Math.min(one, other);
        }

        private void join(int umbrella, int claim) {
            if (umbrella >= 0 && umbrella < MOST && claim >= 0 && claim < MOST) {
                claimOfUmbrella[umbrella] = claim;
                umbrellaOfClaim[claim] = umbrella;
                pairs++;
            }
        }

        private void part(int umbrella, int claim) {
            if (umbrella >= 0 && umbrella < MOST && claim >= 0 && claim < MOST) {
                claimOfUmbrella[umbrella] = NONE;
                umbrellaOfClaim[claim] = NONE;
                pairs--;
            }
        }

        int claimMatched(int umbrella) {
            return umbrella >= 0 && umbrella < MOST ? claimOfUmbrella[umbrella] : NONE;
        }

        int umbrellaMatched(int claim) {
            return claim >= 0 && claim < MOST ? umbrellaOfClaim[claim] : NONE;
        }

        int worthOfMatched() {
            int together = 0;
            for (int umbrella = 0; umbrella < umbrellas; umbrella++) {
                int claim = claimMatched(umbrella);
                if (claim != NONE) {
                    together += worthOf(umbrella, claim);
                }
            }
            return together;
        }

        /** Why a pair is not matched, by the numbers of why(). */
        int reasonAgainst(int umbrella, int claim, Office office) {
            int pair = pairOf(umbrella, claim);
            int other = claimMatched(umbrella);
            if (pair < 0 || pair >= PAIRS || other == claim) {
                return 0;
            }
            if (misses[pair] > office.setting(MISSES_ALLOWED)) {
                return 1;
            }
            if (!suiting[pair]) {
                return 2;
            }
            // A pair that suits is only kept back by one ahead of it: if not its umbrella's, it is its claim's.
            return aheadOf(pairOf(umbrella, other), pair) == pair ? 4 : 3;
        }

        // ---- by claims that ask

        void matchByAsking(Office office) {
            weighAll(office);
            matchNone();
            for (int pair = 0; pair < asked.length; pair++) {
                asked[pair] = false;
            }
            // No pair is asked twice.
            for (int asks = 0; asks < PAIRS; asks++) {
                int pair = nextAsk();
                if (pair == NONE) {
                    return;
                }
                askFor(pair);
            }
        }

        /** The next pair of the first claim that is not taken and has not asked for all. */
        private int nextAsk() {
            for (int claim = 0; claim < claims; claim++) {
                if (umbrellaMatched(claim) == NONE) {
                    int pair = nextPairOf(claim);
                    if (pair != NONE) {
                        return pair;
                    }
                }
            }
            return NONE;
        }

        private int nextPairOf(int claim) {
            int next = NONE;
            for (int umbrella = 0; umbrella < umbrellas; umbrella++) {
                int pair = pairOf(umbrella, claim);
                if (pair >= 0 && pair < PAIRS && suiting[pair] && !asked[pair]) {
                    next = aheadOf(pair, next);
                }
            }
            return next;
        }

        private void askFor(int pair) {
            if (pair < 0 || pair >= PAIRS) {
                return;
            }
            asked[pair] = true;
            int umbrella = pair / MOST;
            int had = claimMatched(umbrella);
            if (had != NONE) {
                if (aheadOf(pair, pairOf(umbrella, had)) != pair) {
                    return;
                }
                part(umbrella, had);
            }
            join(umbrella, pair % MOST);
        }
    }

    /** The text, and the order in it that was read last. */
    private static final class Text {
        private final char[] signs = new char[MOST_SIGNS];
        private int length = 0;

        /** Where the reading stands: behind the order, or where it breaks off. */
        private int place = 0;
        private int kind = NONE;
        private final int[] numbers = new int[DETAILS];

        boolean append(char sign) {
            if (length < 0 || length >= signs.length) {
                return false;
            }
            signs[length] = sign;
            length++;
            return true;
        }

        int number(int index) {
            return numberAt(numbers, index);
        }

        /** Reads the order that begins at a place; false if it is not of the form. */
        boolean readOrder(int start) {
            place = start;
            switch (signHere()) {
                case 'f':
                    kind = ORDER_FIND;
                    return readWord("find ") && readNumbers(4, false) && readSign(';');
                case 'c':
                    kind = ORDER_CLAIM;
                    return readWord("claim ") && readNumbers(4, true) && readSign(';');
                case 't':
                    kind = ORDER_TELL;
                    return readWord("tell ") && readNumbers(3, false) && readSign(';');
                case 'w':
                    kind = ORDER_WEEK;
                    return readWord("week ") && readNumbers(1, false) && readSign(';');
                case 'h':
                    kind = ORDER_HAND;
                    return readWord("hand") && readSign(';');
                default:
                    return false;
            }
        }

        /** The sign where the reading stands; behind the text 0, which no order has. */
        private char signHere() {
            return place >= 0 && place < length && place < signs.length ? signs[place] : (char) 0;
        }

        private boolean readSign(char sign) {
            if (signHere() != sign) {
                return false;
            }
            place++;
            return true;
        }

        private boolean readWord(String word) {
            for (int i = 0; i < word.length(); i++) {
                if (!readSign(word.charAt(i))) {
                    return false;
                }
            }
            return true;
        }

        private boolean readNumbers(int many, boolean dashToo) {
            for (int index = 0; index < many && index < numbers.length; index++) {
                if (index > 0 && !readSign(',')) {
                    return false;
                }
                if (dashToo && readSign('-')) {
                    numbers[index] = NOT_TOLD;
                } else if (digitHere() != NONE) {
                    numbers[index] = readNumber();
                } else {
                    return false;
                }
            }
            return true;
        }

        private int digitHere() {
            char sign = signHere();
            return sign >= '0' && sign <= '9' ? sign - '0' : NONE;
        }

        /** A number of 1 or 2 digits; the first of them is there. */
        private int readNumber() {
            int number = digitHere();
            place++;
            int second = digitHere();
            if (second != NONE) {
                number = number * 10 + second;
                place++;
            }
            return number;
        }
    }
}
