import java.util.Arrays;

/**
 * A house of tongues: a plan in a language tells trials, looks and claims; answers, scores, swaps and
 * voids come as acts; all is told as known at any act. ../shared/DOC.md has the promises.
 */
public final class TastingHouse {
    public static final int NONE = -1;

    private static final int BAD_SEED = -2;
    private static final int NO_DRIFT = -1000000000;
    private static final int NO_MEAN = -1000000;

    private static final int TAPE_BYTES = 700;
    private static final int FED_BYTES = 20;

    private static final int PRODUCTS = 6;
    private static final int TRIALS = 4;
    private static final int LOOKS = 5;
    private static final int CLAIMS = 8;
    private static final int TASTERS = 30;
    private static final int SESSIONS = 10;
    private static final int SCORE_MOST = 100;
    private static final int ACTS = 250;

    private static final int TRIANGLE_PLACES = 3;
    private static final int PAIR_PLACES = 2;
    private static final int CUPS = TASTERS * TRIANGLE_PLACES;
    private static final int[] TRIANGLE_ORDERS = {1, 1, 2, 1, 2, 1, 2, 1, 1, 2, 2, 1, 2, 1, 2, 1, 2, 2};
    private static final int[] PAIR_ORDERS = {1, 2, 2, 1};

    private static final int FIRST_CODE = 100;
    private static final int CODES = 900;

    private static final int NAME_LETTERS = 6;
    private static final int NUMBER_DIGITS = 4;
    private static final int NUMBER_MOST = 9999;
    private static final int LOOK_NUMBER_MOST = 1000;
    private static final int OPEN_AT_ONCE = 6;
    private static final int VALUE_MOST = 1000000000;

    private static final int NO_PLAN_GOES_ON = 1;
    private static final int NUMBER_CANT_BE = 2;
    private static final int NAME_CANT_BE = 3;
    private static final int TOO_DEEP = 4;
    private static final int TOO_MANY = 5;

    /** Each word ends with a blank; the numbers below are the words' places here. */
    private static final String OWN_WORDS =
        "product triangle against pair look below in ties half drop lose scale own raw reference claim when or and not open right wrong tied chance least most mean drift min max stopped ";
    private static final int PRODUCT = 0;
    private static final int TRIANGLE = 1;
    private static final int AGAINST = 2;
    private static final int PAIR = 3;
    private static final int LOOK = 4;
    private static final int BELOW = 5;
    private static final int IN = 6;
    private static final int TIES = 7;
    private static final int HALF = 8;
    private static final int DROP = 9;
    private static final int LOSE = 10;
    private static final int SCALE = 11;
    private static final int OWN = 12;
    private static final int RAW = 13;
    private static final int REFERENCE = 14;
    private static final int CLAIM = 15;
    private static final int WHEN = 16;
    private static final int OR = 17;
    private static final int AND = 18;
    private static final int NOT = 19;
    private static final int RIGHT = 21;
    private static final int WRONG = 22;
    private static final int TIED = 23;
    private static final int CHANCE = 24;
    private static final int LEAST = 25;
    private static final int MOST = 26;
    private static final int MEAN = 27;
    private static final int DRIFT = 28;
    private static final int MIN = 29;
    private static final int MAX = 30;
    private static final int STOPPED = 31;

    /** A step of a claim's test is a word's number, a sign's byte or NUMBER_STEP, and behind it what it is of. */
    private static final int NUMBER_STEP = 32;
    private static final int STEP_ROOM = 10000;

    private static final int OF_RIGHT = 0;
    private static final int OF_WRONG = 1;
    private static final int OF_TIED = 2;
    private static final int OF_N = 3;
    private static final int OF_K = 4;
    private static final int OF_LOOK = 5;
    private static final int OF_SPOILT = 6;
    private static final int OF_LEAST = 7;
    private static final int OF_MOST = 8;
    private static final int OF_CHANCE = 9;

    private final Reader reader;
    private final Ledger ledger;
    private final Chances chances;
    private final Tasting tasting;
    private final ScoreSheet sheet;
    private final Judge judge;
    private final Servings servings;
    private Plan current;
    private boolean planned;
    private boolean opened;
    private int toldAt;

    public TastingHouse() {
        Ledger acts = new Ledger();
        Chances odds = new Chances();
        Tasting answered = new Tasting(acts, odds);
        ScoreSheet scores = new ScoreSheet(acts);
        ledger = acts;
        chances = odds;
        tasting = answered;
        sheet = scores;
        judge = new Judge(answered, scores);
        reader = new Reader(new Plan());
        servings = new Servings();
        current = new Plan();
        planned = false;
        opened = false;
        toldAt = NONE;
    }

    public int feed(int a, int b, int c, int d, int e) {
        if (reader.length + FED_BYTES > TAPE_BYTES) {
            return NONE;
        }
        reader.append(a);
        reader.append(b);
        reader.append(c);
        reader.append(d);
        reader.append(e);
        return reader.length;
    }

    public boolean end(int n) {
        if (n < 0 || n > reader.length) {
            return false;
        }
        reader.length = n;
        return true;
    }

    public int plan(int seed) {
        if (seed < 0) {
            return BAD_SEED;
        }
        int statements = reader.readPlan();
        if (statements == NONE) {
            return NONE;
        }
        current = reader.trade(current);
        current.layCodes(seed);
        ledger.clear();
        planned = true;
        opened = false;
        toldAt = NONE;
        return statements;
    }

    public int fault(int what) {
        if (what == 0) {
            return reader.fault;
        }
        return what == 1 ? reader.place : NONE;
    }

    public int code(int trial, int taster, int place) {
        if (!isTrial(trial) || !isTaster(taster) || place < 0 || place >= current.places(trial)) {
            return NONE;
        }
        return current.codes[trial * CUPS + taster * current.places(trial) + place];
    }

    public int answer(int trial, int taster, int code) {
        if (opened || ledger.isFull() || !isTrial(trial) || !isTaster(taster)) {
            return NONE;
        }
        if (code == 0) {
            return current.triangle[trial] ? NONE : ledger.note(Ledger.ANSWER, trial, taster, NONE, 0);
        }
        int cup = current.cupOf(trial, code);
        if (cup == NONE || cup / current.places(trial) != taster) {
            return NONE;
        }
        return ledger.note(Ledger.ANSWER, trial, taster, cup, 0);
    }

    public int score(int taster, int session, int product, int score) {
        if (opened || ledger.isFull() || !isTaster(taster) || !isSession(session) || !isProduct(product)) {
            return NONE;
        }
        if (score < 0 || score > SCORE_MOST) {
            return NONE;
        }
        return ledger.note(Ledger.SCORE, taster, session, product, score);
    }

    public int swap(int trial, int code, int other) {
        if (ledger.isFull() || !isTrial(trial) || code == other) {
            return NONE;
        }
        int cup = current.cupOf(trial, code);
        int otherCup = current.cupOf(trial, other);
        if (cup == NONE || otherCup == NONE) {
            return NONE;
        }
        return ledger.note(Ledger.SWAP, trial, cup, otherCup, 0);
    }

    public int annul(int act) {
        return ledger.isFull() || !ledger.canBeVoid(act) ? NONE : ledger.noteVoid(act);
    }

    public boolean as(int act) {
        if (act < NONE || act > ledger.count) {
            return false;
        }
        toldAt = act;
        return true;
    }

    public boolean open() {
        if (opened || !planned) {
            return false;
        }
        opened = true;
        return true;
    }

    public int answers(int trial) {
        if (!isTrial(trial)) {
            return NONE;
        }
        tasting.tally(current, trial, known(), false);
        return tasting.counted;
    }

    public int inside(int trial, int code) {
        if (!opened || !isTrial(trial)) {
            return NONE;
        }
        int cup = current.cupOf(trial, code);
        return cup == NONE ? NONE : tasting.contentOf(current, trial, known(), cup);
    }

    public int trial(int trial, int what) {
        return !opened || !isTrial(trial) ? NONE : tasting.measure(current, trial, known(), what);
    }

    public long chance(int trial, boolean above) {
        if (!opened || !isTrial(trial)) {
            return NONE;
        }
        tasting.tally(current, trial, known(), true);
        boolean triangle = current.triangle[trial];
        return above ? chances.above(triangle, tasting.hits, tasting.counted)
            : chances.below(triangle, tasting.counted);
    }

    public long guess(boolean triangle, int k, int n) {
        return isPartOf(k, n) ? chances.above(triangle, k, n) : NONE;
    }

    public long table(boolean triangle, int s, int j, int n) {
        if (!isInThousand(s) || !isPartOf(j, n)) {
            return NONE;
        }
        return chances.sum(triangle, s, n, j, j);
    }

    public int needed(boolean triangle, int s, int a, int b) {
        if (!isInThousand(s) || !isInThousand(a) || !isInThousand(b)) {
            return NONE;
        }
        return chances.tastersFor(triangle, s, a, b);
    }

    public int mean(int product) {
        if (!opened || !isProduct(product)) {
            return NONE;
        }
        sheet.fill(current, known());
        return sheet.meanOf(product);
    }

    public int drift(int session) {
        if (!opened || !isSession(session)) {
            return NO_DRIFT;
        }
        sheet.fill(current, known());
        return sheet.drifts[session];
    }

    public int scored(int taster, int session, int product) {
        if (!opened || !isTaster(taster) || !isSession(session) || !isProduct(product)) {
            return NONE;
        }
        sheet.fill(current, known());
        return sheet.scaled(taster, session, product);
    }

    public int claim(int k) {
        if (!opened || k < 0 || k >= current.claims) {
            return NONE;
        }
        return judge.holds(current, known(), k) ? 1 : 0;
    }

    public int orders(int t, int n) {
        if (t < Servings.THINGS_LEAST || t > Servings.THINGS_MOST || n < 1 || n > Servings.ROWS) {
            return NONE;
        }
        return servings.lay(t, n);
    }

    public int served(int i, int place) {
        if (i < 0 || i >= servings.laid || place < 0 || place >= servings.things) {
            return NONE;
        }
        return servings.rows[i * Servings.THINGS_MOST + place];
    }

    public int serves(int row) {
        return servings.laid < 1 || servings.laid >= Servings.ROWS ? NONE : servings.layByHand(row);
    }

    public int all(int what) {
        switch (what) {
            case 0: return current.products;
            case 1: return current.trials;
            case 2: return current.claims;
            case 3: return ledger.count;
            case 4: return known();
            case 5: return opened ? 1 : 0;
            case 6: return current.allLooks();
            default: return NONE;
        }
    }

    private int known() {
        return toldAt == NONE ? ledger.count : toldAt;
    }

    private boolean isTrial(int trial) {
        return trial >= 0 && trial < current.trials;
    }

    private boolean isProduct(int product) {
        return product >= 0 && product < current.products;
    }

    private static boolean isTaster(int taster) {
        return taster >= 0 && taster < TASTERS;
    }

    private static boolean isSession(int session) {
        return session >= 0 && session < SESSIONS;
    }

    private static boolean isInThousand(int number) {
        return number >= 0 && number <= 1000;
    }

    private static boolean isPartOf(int part, int n) {
        return n >= 0 && n <= TASTERS && part >= 0 && part <= n;
    }

    /** What a text laid down, and the codes of its cups. */
    private static final class Plan {
        int products;
        int trials;
        int claims;
        int ties = DROP;
        boolean ownScale;
        int reference = NONE;
        int stepCount;
        /** Products' names stand ahead, claims' behind PRODUCTS. */
        final long[] names = new long[PRODUCTS + CLAIMS];
        final boolean[] triangle = new boolean[TRIALS];
        final int[] looks = new int[TRIALS];
        final int[] lookAt = new int[TRIALS * LOOKS];
        final int[] lookBelow = new int[TRIALS * LOOKS];
        final int[] lookIn = new int[TRIALS * LOOKS];
        final int[] codes = new int[TRIALS * CUPS];
        /** The claims' tests, one behind the other, each a row of steps for a stack. */
        final int[] steps = new int[TAPE_BYTES];
        final int[] stepEnd = new int[CLAIMS];

        void clear() {
            products = 0;
            trials = 0;
            claims = 0;
            ties = DROP;
            ownScale = false;
            reference = NONE;
            stepCount = 0;
        }

        int places(int trial) {
            return triangle[trial] ? TRIANGLE_PLACES : PAIR_PLACES;
        }

        int cups(int trial) {
            return TASTERS * places(trial);
        }

        int allLooks() {
            int sum = 0;
            for (int trial = 0; trial < trials; trial++) {
                sum += looks[trial];
            }
            return sum;
        }

        int productNamed(long name) {
            for (int product = 0; product < products; product++) {
                if (names[product] == name) {
                    return product;
                }
            }
            return NONE;
        }

        boolean hasName(long name) {
            for (int claim = 0; claim < claims; claim++) {
                if (names[PRODUCTS + claim] == name) {
                    return true;
                }
            }
            return productNamed(name) != NONE;
        }

        void addProduct(long name) {
            if (products < PRODUCTS) {
                names[products] = name;
                products++;
            }
        }

        void addTrial(boolean isTriangle) {
            if (trials < TRIALS) {
                triangle[trials] = isTriangle;
                looks[trials] = 0;
                trials++;
            }
        }

        /** The latest trial gets a look. */
        void addLook(int at, int below, int in) {
            int trial = trials - 1;
            if (trial >= 0 && looks[trial] < LOOKS) {
                int look = trial * LOOKS + looks[trial];
                lookAt[look] = at;
                lookBelow[look] = below;
                lookIn[look] = in;
                looks[trial]++;
            }
        }

        int answersAtLatestLook() {
            int trial = trials - 1;
            return trial < 0 || looks[trial] < 1 ? 0 : lookAt[trial * LOOKS + looks[trial] - 1];
        }

        void addStep(int kind, int of) {
            if (stepCount < TAPE_BYTES) {
                steps[stepCount] = kind * STEP_ROOM + of;
                stepCount++;
            }
        }

        /** The steps since the last claim are this one's. */
        void addClaim(long name) {
            if (claims < CLAIMS) {
                names[PRODUCTS + claims] = name;
                stepEnd[claims] = stepCount;
                claims++;
            }
        }

        void layCodes(int seed) {
            Arrays.fill(codes, 0);
            for (int trial = 0; trial < trials; trial++) {
                long x = seed;
                for (int cup = 0; cup < cups(trial); cup++) {
                    x = (1103515245L * x + 12345L) & 0x7fffffffL;
                    codes[trial * CUPS + cup] = freeCode(trial, (int) (x / 256 % CODES));
                }
            }
        }

        private int freeCode(int trial, int wanted) {
            int code = FIRST_CODE + wanted;
            for (int i = 0; i < CODES && cupOf(trial, code) != NONE; i++) {
                code = code + 1 < FIRST_CODE + CODES ? code + 1 : FIRST_CODE;
            }
            return code;
        }

        int cupOf(int trial, int code) {
            if (code < FIRST_CODE) {
                return NONE;
            }
            for (int cup = 0; cup < cups(trial); cup++) {
                if (codes[trial * CUPS + cup] == code) {
                    return cup;
                }
            }
            return NONE;
        }
    }

    /** The tape, and how it is read as a plan: into a draft, so that a fault leaves the current plan alone. */
    private static final class Reader {
        /** What the token is: a sign's own byte, or one of these. */
        private static final int ENDED = 256;
        private static final int WORD = 257;
        private static final int NUMBER = 258;
        private static final int GLUED = 259;

        private final char[] tape = new char[TAPE_BYTES];
        private Plan draft;
        int length;
        int fault;
        int place;
        private int kind;
        private int start;
        private int stop;
        private int word;
        private int openNow;

        Reader(Plan spare) {
            draft = spare;
            length = 0;
            fault = 0;
            place = NONE;
        }

        void append(int four) {
            for (int shift = 24; shift >= 0 && length < TAPE_BYTES; shift -= 8) {
                tape[length] = (char) ((four >>> shift) & 255);
                length++;
            }
        }

        /** The draft goes out, the plan that it replaces is the next draft. */
        Plan trade(Plan old) {
            Plan laid = draft;
            draft = old;
            return laid;
        }

        int readPlan() {
            draft.clear();
            fault = 0;
            place = NONE;
            openNow = 0;
            stop = 0;
            int statements = 0;
            readToken();
            for (int i = 0; i < TAPE_BYTES && fault == 0 && kind != ENDED; i++) {
                switch (word) {
                    case PRODUCT: readProduct(); break;
                    case TRIANGLE: readTrial(true); break;
                    case PAIR: readTrial(false); break;
                    case LOOK: readLook(); break;
                    case TIES: readTies(); break;
                    case SCALE: readScale(); break;
                    case REFERENCE: readReference(); break;
                    case CLAIM: readClaim(); break;
                    default: fail(NO_PLAN_GOES_ON, start); break;
                }
                expectSign(';');
                statements++;
            }
            length = 0;
            return fault == 0 ? statements : NONE;
        }

        private void readProduct() {
            refuseMore(draft.products, PRODUCTS);
            readToken();
            long name = takeNewName();
            if (fault == 0) {
                draft.addProduct(name);
            }
        }

        private void readTrial(boolean isTriangle) {
            refuseMore(draft.trials, TRIALS);
            readToken();
            int first = takeProduct(NONE);
            expectWord(AGAINST);
            takeProduct(first);
            if (fault == 0) {
                draft.addTrial(isTriangle);
            }
        }

        private void readLook() {
            if (draft.trials < 1) {
                fail(NO_PLAN_GOES_ON, start);
                return;
            }
            refuseMore(draft.looks[draft.trials - 1], LOOKS);
            readToken();
            int at = takeNumber(draft.answersAtLatestLook() + 1, TASTERS);
            expectWord(BELOW);
            int below = takeNumber(1, LOOK_NUMBER_MOST);
            expectWord(IN);
            int in = takeNumber(below, LOOK_NUMBER_MOST);
            if (fault == 0) {
                draft.addLook(at, below, in);
            }
        }

        private void readTies() {
            readToken();
            if (word == HALF || word == DROP || word == LOSE) {
                draft.ties = word;
                readToken();
            } else {
                fail(NO_PLAN_GOES_ON, start);
            }
        }

        private void readScale() {
            readToken();
            if (word == OWN || word == RAW) {
                draft.ownScale = word == OWN;
                readToken();
            } else {
                fail(NO_PLAN_GOES_ON, start);
            }
        }

        private void readReference() {
            readToken();
            int product = takeProduct(NONE);
            if (fault == 0) {
                draft.reference = product;
            }
        }

        private void readClaim() {
            refuseMore(draft.claims, CLAIMS);
            readToken();
            long name = takeNewName();
            expectWord(WHEN);
            readTest();
            if (fault == 0) {
                draft.addClaim(name);
            }
        }

        private void readTest() {
            readBoth();
            for (int i = 0; i < TAPE_BYTES && fault == 0 && word == OR; i++) {
                readToken();
                readBoth();
                draft.addStep(OR, 0);
            }
        }

        private void readBoth() {
            readFact();
            for (int i = 0; i < TAPE_BYTES && fault == 0 && word == AND; i++) {
                readToken();
                readFact();
                draft.addStep(AND, 0);
            }
        }

        private void readFact() {
            if (fault != 0) {
                return;
            }
            if (word == NOT) {
                if (enter()) {
                    readFact();
                    openNow--;
                    draft.addStep(NOT, 0);
                }
            } else if (kind == '[') {
                if (enter()) {
                    readTest();
                    expectSign(']');
                    openNow--;
                }
            } else if (word == STOPPED) {
                readOfTrial();
            } else {
                readComparison();
            }
        }

        private void readComparison() {
            readSum();
            int sign = kind;
            if (sign == '<' || sign == '>' || sign == '=') {
                readToken();
                readSum();
                draft.addStep(sign, 0);
            } else {
                fail(NO_PLAN_GOES_ON, start);
            }
        }

        private void readSum() {
            readTerm();
            for (int i = 0; i < TAPE_BYTES && fault == 0 && (kind == '+' || kind == '-'); i++) {
                int sign = kind;
                readToken();
                readTerm();
                draft.addStep(sign, 0);
            }
        }

        private void readTerm() {
            readPart();
            for (int i = 0; i < TAPE_BYTES && fault == 0 && (kind == '*' || kind == '/'); i++) {
                int sign = kind;
                readToken();
                readPart();
                draft.addStep(sign, 0);
            }
        }

        private void readPart() {
            if (fault != 0) {
                return;
            }
            if (kind == NUMBER) {
                draft.addStep(NUMBER_STEP, takeNumber(0, NUMBER_MOST));
            } else if (kind == '(') {
                readInParentheses(NONE);
            } else if (word == MIN || word == MAX) {
                int choice = word;
                readToken();
                readInParentheses(choice);
            } else if (word == MEAN) {
                readToken();
                draft.addStep(MEAN, takeProduct(NONE));
            } else if (word == DRIFT) {
                readToken();
                draft.addStep(DRIFT, takeNumber(0, SESSIONS - 1));
            } else if (word >= RIGHT && word <= MOST) {
                readOfTrial();
            } else {
                fail(NO_PLAN_GOES_ON, start);
            }
        }

        /** One sum in parentheses, or, with min or max as the choice, two. */
        private void readInParentheses(int choice) {
            if (kind != '(') {
                fail(NO_PLAN_GOES_ON, start);
            }
            if (fault != 0 || !enter()) {
                return;
            }
            readSum();
            if (choice != NONE) {
                expectSign(',');
                readSum();
                draft.addStep(choice, 0);
            }
            expectSign(')');
            openNow--;
        }

        private void readOfTrial() {
            int what = word;
            readToken();
            draft.addStep(what, takeNumber(0, draft.trials - 1));
        }

        /** Goes past what opens, unless too much is open. */
        private boolean enter() {
            if (openNow >= OPEN_AT_ONCE) {
                fail(TOO_DEEP, start);
                return false;
            }
            openNow++;
            readToken();
            return true;
        }

        private void refuseMore(int count, int most) {
            if (count >= most) {
                fail(TOO_MANY, start);
            }
        }

        private void expectSign(int sign) {
            if (kind == sign) {
                readToken();
            } else {
                fail(NO_PLAN_GOES_ON, start);
            }
        }

        private void expectWord(int expected) {
            if (word == expected) {
                readToken();
            } else {
                fail(NO_PLAN_GOES_ON, start);
            }
        }

        private int takeNumber(int least, int most) {
            if (kind != NUMBER) {
                fail(NO_PLAN_GOES_ON, start);
                return 0;
            }
            if (stop - start > NUMBER_DIGITS) {
                fail(NO_PLAN_GOES_ON, start + NUMBER_DIGITS);
                return 0;
            }
            int number = 0;
            for (int i = start; i < stop; i++) {
                number = number * 10 + (tape[i] - '0');
            }
            if (number < least || number > most) {
                fail(NUMBER_CANT_BE, start);
                return 0;
            }
            readToken();
            return number;
        }

        private long takeNewName() {
            int at = start;
            long name = takeName();
            if (draft.hasName(name)) {
                fail(NAME_CANT_BE, at);
            }
            return name;
        }

        private int takeProduct(int unlike) {
            int at = start;
            int product = draft.productNamed(takeName());
            if (product == NONE || product == unlike) {
                fail(NAME_CANT_BE, at);
                return 0;
            }
            return product;
        }

        /** Its letters as the bytes of one number; 0, which is no name's, with a fault. */
        private long takeName() {
            if (kind != WORD || word != NONE) {
                fail(NO_PLAN_GOES_ON, start);
                return 0;
            }
            if (stop - start > NAME_LETTERS) {
                fail(NO_PLAN_GOES_ON, start + NAME_LETTERS);
                return 0;
            }
            long name = 0;
            for (int i = start; i < stop; i++) {
                name = name << 8 | tape[i];
            }
            readToken();
            return name;
        }

        /** Only the first fault along the text is told, so later ones change nothing. */
        private void fail(int what, int where) {
            if (fault == 0) {
                fault = what;
                place = where;
            }
        }

        private void readToken() {
            int at = stop;
            while (at < length && (tape[at] == ' ' || tape[at] == '\n')) {
                at++;
            }
            start = at;
            kind = at < length ? kindOf(tape[at]) : ENDED;
            word = NONE;
            boolean isWhole = kind == WORD || kind == NUMBER;
            if (isWhole) {
                while (at < length && kindOf(tape[at]) == kind) {
                    at++;
                }
            } else if (kind != ENDED) {
                at++;
            }
            stop = at;
            // A word right behind a number, or the other way round, lacks the blank that they need.
            if (isWhole && start > 0 && kindOf(tape[start - 1]) >= WORD) {
                kind = GLUED;
            } else if (kind == WORD) {
                word = ownWord();
            }
        }

        private int ownWord() {
            int number = 0;
            int from = 0;
            boolean alike = true;
            for (int i = 0; i < OWN_WORDS.length(); i++) {
                int at = start + i - from;
                if (OWN_WORDS.charAt(i) != ' ') {
                    alike = alike && at < stop && tape[at] == OWN_WORDS.charAt(i);
                } else if (alike && at == stop) {
                    return number;
                } else {
                    number++;
                    from = i + 1;
                    alike = true;
                }
            }
            return NONE;
        }

        private static int kindOf(char sign) {
            if ((sign >= 'a' && sign <= 'z') || (sign >= 'A' && sign <= 'Z')) {
                return WORD;
            }
            return sign >= '0' && sign <= '9' ? NUMBER : sign;
        }
    }

    /** The acts, numbered from 1 on. */
    private static final class Ledger {
        static final int ANSWER = 1;
        static final int SCORE = 2;
        static final int SWAP = 3;
        static final int VOID = 4;

        int count;
        final int[] kinds = new int[ACTS + 1];
        /** An answer: trial, taster, cup (NONE: a tie). A score: taster, session, product, score. A swap: trial, cup, cup. */
        final int[] first = new int[ACTS + 1];
        final int[] second = new int[ACTS + 1];
        final int[] third = new int[ACTS + 1];
        final int[] fourth = new int[ACTS + 1];
        /** The act that tells that this one was not so; 0: none does. */
        private final int[] voidBy = new int[ACTS + 1];

        void clear() {
            count = 0;
        }

        boolean isFull() {
            return count >= ACTS;
        }

        int note(int kind, int a, int b, int c, int d) {
            if (isFull()) {
                return NONE;
            }
            count++;
            kinds[count] = kind;
            first[count] = a;
            second[count] = b;
            third[count] = c;
            fourth[count] = d;
            voidBy[count] = 0;
            return count;
        }

        boolean canBeVoid(int act) {
            return act >= 1 && act <= count && kinds[act] != VOID && voidBy[act] == 0;
        }

        int noteVoid(int act) {
            int by = note(VOID, act, 0, 0, 0);
            if (by != NONE && act >= 1 && act <= ACTS) {
                voidBy[act] = by;
            }
            return by;
        }

        boolean isKnown(int act, int kind, int known) {
            return kinds[act] == kind && (voidBy[act] == 0 || voidBy[act] > known);
        }
    }

    /** What is in a trial's cups, and how its answers count. */
    private static final class Tasting {
        private final Ledger ledger;
        private final Chances chances;
        private final int[] content = new int[CUPS];
        private final boolean[] heard = new boolean[TASTERS];
        private int right;
        private int wrong;
        private int tied;
        private int spoilt;
        /** At which it stopped, from 1 on; 0: it did not. */
        private int look;
        /** The document's N and K. */
        int counted;
        int hits;

        Tasting(Ledger acts, Chances odds) {
            ledger = acts;
            chances = odds;
        }

        int contentOf(Plan plan, int trial, int known, int cup) {
            pour(plan, trial, known);
            return cup >= 0 && cup < CUPS ? content[cup] : NONE;
        }

        private void pour(Plan plan, int trial, int known) {
            int[] orders = plan.triangle[trial] ? TRIANGLE_ORDERS : PAIR_ORDERS;
            for (int cup = 0; cup < plan.cups(trial); cup++) {
                content[cup] = orders[cup % orders.length];
            }
            for (int act = 1; act <= known; act++) {
                if (ledger.isKnown(act, Ledger.SWAP, known) && ledger.first[act] == trial) {
                    exchange(ledger.second[act], ledger.third[act]);
                }
            }
        }

        private void exchange(int cup, int other) {
            int held = content[cup];
            content[cup] = content[other];
            content[other] = held;
        }

        /** Counts the answers in the order of their acts; looking, only up to where the trial stops. */
        void tally(Plan plan, int trial, int known, boolean looking) {
            pour(plan, trial, known);
            clear();
            for (int act = 1; act <= known && look == 0; act++) {
                if (!ledger.isKnown(act, Ledger.ANSWER, known) || ledger.first[act] != trial) {
                    continue;
                }
                int taster = ledger.second[act];
                if (!heard[taster]) {
                    heard[taster] = true;
                    hear(plan.triangle[trial], taster, ledger.third[act]);
                    int before = counted;
                    count(plan.ties);
                    if (looking && counted > before) {
                        look = lookThatStops(plan, trial);
                    }
                }
            }
        }

        private void clear() {
            for (int taster = 0; taster < TASTERS; taster++) {
                heard[taster] = false;
            }
            right = 0;
            wrong = 0;
            tied = 0;
            spoilt = 0;
            look = 0;
            counted = 0;
            hits = 0;
        }

        private void hear(boolean triangle, int taster, int cup) {
            int places = triangle ? TRIANGLE_PLACES : PAIR_PLACES;
            int from = taster * places;
            if (likeCups(from, from, places) == places) {
                spoilt++;
            } else if (cup == NONE) {
                tied++;
            } else if (triangle ? likeCups(cup, from, places) == 1 : content[cup] == 1) {
                right++;
            } else {
                wrong++;
            }
        }

        /** How many of a taster's cups hold what this one holds. */
        private int likeCups(int cup, int from, int places) {
            int like = 0;
            for (int other = from; other < from + places; other++) {
                if (content[other] == content[cup]) {
                    like++;
                }
            }
            return like;
        }

        private void count(int ties) {
            counted = right + wrong + (ties == DROP ? 0 : tied);
            hits = right + (ties == HALF ? tied / 2 : 0);
        }

        private int lookThatStops(Plan plan, int trial) {
            for (int i = 0; i < plan.looks[trial]; i++) {
                int at = trial * LOOKS + i;
                if (plan.lookAt[at] == counted) {
                    boolean below = chances.isBelow(plan.triangle[trial], hits, counted,
                        plan.lookBelow[at], plan.lookIn[at]);
                    return below ? i + 1 : 0;
                }
            }
            return 0;
        }

        int measure(Plan plan, int trial, int known, int what) {
            tally(plan, trial, known, true);
            boolean triangle = plan.triangle[trial];
            switch (what) {
                case OF_RIGHT: return right;
                case OF_WRONG: return wrong;
                case OF_TIED: return tied;
                case OF_N: return counted;
                case OF_K: return hits;
                case OF_LOOK: return look;
                case OF_SPOILT: return spoilt;
                case OF_LEAST: return chances.leastShare(triangle, hits, counted);
                case OF_MOST: return chances.mostShare(triangle, hits, counted);
                case OF_CHANCE: return chances.inMillion(triangle, hits, counted);
                default: return NONE;
            }
        }
    }

    /** Chances by guessing, exactly, and the table of shares. */
    private static final class Chances {
        private static final long WHOLE = 1L << 30;
        private static final long RARE = WHOLE * 25 / 1000;
        /** Above what all floors together take from a sum of the table: 2 + 4 + .. + 60. */
        private static final long SLACK = 1000;
        private static final int HALVINGS = 10;

        private final long[] row = new long[TASTERS + 1];

        /** Of all ways in which n guess, those in which k or more are right. */
        long above(boolean triangle, int k, int n) {
            long ways = 1;
            long sum = 0;
            for (int j = n; j >= k; j--) {
                sum += triangle ? ways << (n - j) : ways;
                ways = ways * j / (n - j + 1);
            }
            return sum;
        }

        long below(boolean triangle, int n) {
            long all = 1;
            for (int i = 0; i < n; i++) {
                all *= triangle ? 3 : 2;
            }
            return all;
        }

        boolean isBelow(boolean triangle, int k, int n, int part, int whole) {
            return above(triangle, k, n) * whole < below(triangle, n) * part;
        }

        /** In two steps of a thousand, as a million times 3 to the 30 is too much for a long. */
        int inMillion(boolean triangle, int k, int n) {
            long all = Math.max(1, below(triangle, n));
            long thousands = above(triangle, k, n) * 1000;
            long rest = thousands % all * 1000;
            long whole = thousands / all * 1000 + rest / all;
            return (int) (rest % all == 0 ? whole : whole + 1);
        }

        /** The table by s for n goes into the row. */
        private void fillRow(boolean triangle, int s, int n) {
            long all = triangle ? 3000 : 2000;
            long right = triangle ? 1000 + 2 * s : 1000 + s;
            Arrays.fill(row, 0);
            row[0] = WHOLE;
            for (int i = 1; i <= n && i < row.length; i++) {
                for (int j = i; j >= 1; j--) {
                    row[j] = row[j] * (all - right) / all + row[j - 1] * right / all;
                }
                row[0] = row[0] * (all - right) / all;
            }
        }

        long sum(boolean triangle, int s, int n, int from, int to) {
            fillRow(triangle, s, n);
            long sum = 0;
            for (int j = Math.max(0, from); j <= to && j < row.length; j++) {
                sum += row[j];
            }
            return sum;
        }

        /**
         * But for the floors the sum rises with s, so one that is below by more than they take rules out
         * all smaller s; what is left is tried one by one.
         */
        int leastShare(boolean triangle, int k, int n) {
            int low = 0;
            int high = 1001;
            for (int i = 0; i < HALVINGS && low < high; i++) {
                int middle = (low + high) / 2;
                if (sum(triangle, middle, n, k, n) < RARE - SLACK) {
                    low = middle + 1;
                } else {
                    high = middle;
                }
            }
            for (int s = low; s <= 1000; s++) {
                if (sum(triangle, s, n, k, n) >= RARE) {
                    return s;
                }
            }
            return 1000;
        }

        /** As leastShare, but this sum falls with s. */
        int mostShare(boolean triangle, int k, int n) {
            int low = -1;
            int high = 1000;
            for (int i = 0; i < HALVINGS && low < high; i++) {
                int middle = (low + high + 1) / 2;
                if (sum(triangle, middle, n, 0, k) < RARE - SLACK) {
                    high = middle - 1;
                } else {
                    low = middle;
                }
            }
            for (int s = high; s >= 0; s--) {
                if (sum(triangle, s, n, 0, k) >= RARE) {
                    return s;
                }
            }
            return 0;
        }

        int tastersFor(boolean triangle, int s, int a, int b) {
            long power = WHOLE * (1000 - b) / 1000;
            for (int n = 1; n <= TASTERS; n++) {
                fillRow(triangle, s, n);
                if (isEnough(triangle, n, a, power)) {
                    return n;
                }
            }
            return NONE;
        }

        /** Both sums grow as k falls, so the first k at which guessing is too likely ends the search. */
        private boolean isEnough(boolean triangle, int n, int a, long power) {
            long tasted = 0;
            for (int k = n; k >= 0 && isBelow(triangle, k, n, a, 1000); k--) {
                tasted += row[k];
                if (tasted >= power) {
                    return true;
                }
            }
            return false;
        }
    }

    /** Scores as they are known and scaled, and the drift of each session. */
    private static final class ScoreSheet {
        private final Ledger ledger;
        private final int[] scores = new int[TASTERS * SESSIONS * PRODUCTS];
        private final int[] least = new int[TASTERS];
        private final int[] greatest = new int[TASTERS];
        private boolean ownScale;
        final int[] drifts = new int[SESSIONS];

        ScoreSheet(Ledger acts) {
            ledger = acts;
        }

        void fill(Plan plan, int known) {
            ownScale = plan.ownScale;
            Arrays.fill(scores, NONE);
            Arrays.fill(least, SCORE_MOST);
            Arrays.fill(greatest, 0);
            for (int act = 1; act <= known; act++) {
                if (ledger.isKnown(act, Ledger.SCORE, known)) {
                    write(cell(ledger.first[act], ledger.second[act], ledger.third[act]),
                        ledger.first[act], ledger.fourth[act]);
                }
            }
            findDrifts(plan.reference);
        }

        private void write(int cell, int taster, int score) {
            if (scores[cell] == NONE) {
                scores[cell] = score;
                least[taster] = Math.min(least[taster], score);
                greatest[taster] = Math.max(greatest[taster], score);
            }
        }

        private static int cell(int taster, int session, int product) {
            return (taster * SESSIONS + session) * PRODUCTS + product;
        }

        int scaled(int taster, int session, int product) {
            int score = scores[cell(taster, session, product)];
            if (score == NONE) {
                return NONE;
            }
            if (!ownScale) {
                return 10 * score;
            }
            int span = greatest[taster] - least[taster];
            return span <= 0 ? 500 : 1000 * (score - least[taster]) / span;
        }

        private void findDrifts(int reference) {
            Arrays.fill(drifts, 0);
            boolean begun = false;
            int beginning = 0;
            for (int session = 0; session < SESSIONS && reference != NONE; session++) {
                int count = countIn(session, reference);
                if (count > 0) {
                    int mean = Math.floorDiv(sumIn(session, reference), count);
                    beginning = begun ? beginning : mean;
                    begun = true;
                    drifts[session] = mean - beginning;
                }
            }
        }

        private int countIn(int session, int product) {
            int count = 0;
            for (int taster = 0; taster < TASTERS; taster++) {
                if (scaled(taster, session, product) != NONE) {
                    count++;
                }
            }
            return count;
        }

        private int sumIn(int session, int product) {
            int sum = 0;
            for (int taster = 0; taster < TASTERS; taster++) {
                int score = scaled(taster, session, product);
                sum += score == NONE ? 0 : score;
            }
            return sum;
        }

        int meanOf(int product) {
            int count = 0;
            int sum = 0;
            for (int session = 0; session < SESSIONS; session++) {
                int here = countIn(session, product);
                count += here;
                sum += sumIn(session, product) - here * drifts[session];
            }
            return count < 1 ? NO_MEAN : Math.floorDiv(sum, count);
        }
    }

    /** Goes through the steps of a claim's test with a stack. */
    private static final class Judge {
        /** Six things open at once leave no more than three values each waiting, and a few around them. */
        private static final int STACK = 64;

        private final Tasting tasting;
        private final ScoreSheet sheet;
        private final int[] stack = new int[STACK];
        private int height;

        Judge(Tasting answered, ScoreSheet scores) {
            tasting = answered;
            sheet = scores;
        }

        boolean holds(Plan plan, int known, int claim) {
            sheet.fill(plan, known);
            height = 0;
            int from = claim < 1 ? 0 : plan.stepEnd[claim - 1];
            for (int i = from; i < plan.stepEnd[claim]; i++) {
                int kind = plan.steps[i] / STEP_ROOM;
                int of = plan.steps[i] % STEP_ROOM;
                if (kind == NOT) {
                    push(1 - pop());
                } else if (isPart(kind)) {
                    push(part(plan, known, kind, of));
                } else {
                    int right = pop();
                    push(joined(kind, pop(), right));
                }
            }
            return pop() == 1;
        }

        private void push(int value) {
            if (height < STACK) {
                stack[height] = value;
                height++;
            }
        }

        private int pop() {
            if (height < 1) {
                return 0;
            }
            height--;
            return stack[height];
        }

        private static boolean isPart(int kind) {
            return kind == NUMBER_STEP || kind == STOPPED || (kind >= RIGHT && kind <= DRIFT);
        }

        private int part(Plan plan, int known, int kind, int of) {
            switch (kind) {
                case NUMBER_STEP: return of;
                case MEAN: return sheet.meanOf(of);
                case DRIFT: return sheet.drifts[of];
                case STOPPED: return tasting.measure(plan, of, known, OF_LOOK) > 0 ? 1 : 0;
                case RIGHT: return tasting.measure(plan, of, known, OF_RIGHT);
                case WRONG: return tasting.measure(plan, of, known, OF_WRONG);
                case TIED: return tasting.measure(plan, of, known, OF_TIED);
                case CHANCE: return tasting.measure(plan, of, known, OF_CHANCE);
                case LEAST: return tasting.measure(plan, of, known, OF_LEAST);
                default: return tasting.measure(plan, of, known, OF_MOST);
            }
        }

        private static int joined(int kind, int left, int right) {
            switch (kind) {
                case OR: return left | right;
                case AND: return left & right;
                case '<': return left < right ? 1 : 0;
                case '>': return left > right ? 1 : 0;
                case '=': return left == right ? 1 : 0;
                case '+': return bounded((long) left + right);
                case '-': return bounded((long) left - right);
                case '*': return bounded((long) left * right);
                case '/': return right == 0 ? 0 : Math.floorDiv(left, right);
                case MIN: return Math.min(left, right);
                default: return Math.max(left, right);
            }
        }

        private static int bounded(long value) {
            return (int) Math.max(-VALUE_MOST, Math.min(VALUE_MOST, value));
        }
    }

    /** Orders of serving, laid one by one. */
    private static final class Servings {
        static final int ROWS = 30;
        static final int THINGS_LEAST = 2;
        static final int THINGS_MOST = 5;
        private static final int PERMUTATIONS = 120;

        int things;
        int laid;
        final int[] rows = new int[ROWS * THINGS_MOST];
        /** How often each thing stood at each place, and just ahead of each other one. */
        private final int[] stood = new int[THINGS_MOST * THINGS_MOST];
        private final int[] ahead = new int[THINGS_MOST * THINGS_MOST];
        private final int[] row = new int[THINGS_MOST];
        private final int[] best = new int[THINGS_MOST];

        int lay(int t, int n) {
            things = t;
            laid = 0;
            Arrays.fill(stood, 0);
            Arrays.fill(ahead, 0);
            for (int i = 0; i < n; i++) {
                findBest();
                append(best);
            }
            return unevenness();
        }

        /** The row has each thing once, its first one in the lowest four bits, and nothing behind. */
        int layByHand(int number) {
            int seen = 0;
            for (int i = 0; i < things; i++) {
                row[i] = number >>> (4 * i) & 15;
                seen |= 1 << row[i];
            }
            if (number >>> (4 * things) != 0 || seen != (1 << things) - 1) {
                return NONE;
            }
            append(row);
            return unevenness();
        }

        /**
         * A row raises 2 t - 1 counts by one, whichever it is, and a count c raises what is uneven by
         * 2 t t c and something that is the same for all: so the row with the least sum of counts is the best.
         */
        private void findBest() {
            for (int i = 0; i < things; i++) {
                row[i] = i;
            }
            int least = Integer.MAX_VALUE;
            boolean more = true;
            for (int i = 0; i < PERMUTATIONS && more; i++) {
                int sum = sumOfCounts();
                if (sum < least) {
                    least = sum;
                    System.arraycopy(row, 0, best, 0, THINGS_MOST);
                }
                more = nextRow();
            }
        }

        private int sumOfCounts() {
            int sum = 0;
            for (int i = 0; i < things; i++) {
                sum += stood[row[i] * THINGS_MOST + i];
                if (i > 0) {
                    sum += ahead[row[i - 1] * THINGS_MOST + row[i]];
                }
            }
            return sum;
        }

        /** The next row in the order of rows as words; false behind the last. */
        private boolean nextRow() {
            int turn = things - 2;
            while (turn >= 0 && row[turn] > row[turn + 1]) {
                turn--;
            }
            if (turn < 0) {
                return false;
            }
            int above = things - 1;
            while (above > turn && row[above] < row[turn]) {
                above--;
            }
            exchange(turn, above);
            int right = things - 1;
            for (int left = turn + 1; left < right; left++) {
                exchange(left, right);
                right--;
            }
            return true;
        }

        private void exchange(int i, int j) {
            int held = row[i];
            row[i] = row[j];
            row[j] = held;
        }

        private void append(int[] serving) {
            if (laid >= ROWS) {
                return;
            }
            for (int i = 0; i < things; i++) {
                rows[laid * THINGS_MOST + i] = serving[i];
                stood[serving[i] * THINGS_MOST + i]++;
                if (i > 0) {
                    ahead[serving[i - 1] * THINGS_MOST + serving[i]]++;
                }
            }
            laid++;
        }

        private int unevenness() {
            int sum = 0;
            for (int one = 0; one < things; one++) {
                for (int other = 0; other < things; other++) {
                    int cell = one * THINGS_MOST + other;
                    sum += squareOfGap(stood[cell]);
                    sum += one == other ? 0 : squareOfGap(ahead[cell]);
                }
            }
            return sum;
        }

        private int squareOfGap(int count) {
            int gap = count * things - laid;
            return gap * gap;
        }
    }
}
