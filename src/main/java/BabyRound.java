/** A baby handed round its aunts: what goes on, what would be, and when it was last fed. */
public final class BabyRound {
    public static final int NONE = -1;

    private static final int NOBODY = -2;
    private static final int NOT_SO = -2;
    private static final int NO_LAW = -10000;
    private static final int NO_MOMENT = -100000;

    private static final int MOST_AUNTS = 6;
    private static final int MOST = 99;
    private static final int LONG_SLEEP = 60;
    private static final int MERRY_WONDER = 50;
    private static final int LONGEST = 240;
    private static final int LONG = 120;
    private static final int SHORT = 60;
    private static final int MOST_KEPT = 10;
    private static final int MOST_RULE = 20;
    private static final int RULES = 4;
    private static final int SLOTS = 3;
    private static final int MOST_TOLD = 20;
    private static final int MOST_UNDONE = 50;
    /** Far more than two ints can need until one divides the other. */
    private static final int MOST_DIVISIONS = 100;

    private static final int HUNGERS = 0;
    private static final int TIRES = 1;
    private static final int WONDERS = 2;
    private static final int WINDS = 3;
    private static final int CRIES = 4;
    private static final int SLEEPS = 5;
    private static final int SPITS = 6;
    private static final int LAWS = 7;

    private static final int MINUTES_HAD = 0;
    private static final int CRIED = 1;
    private static final int LAUGHED = 2;
    private static final int SAT = 3;
    private static final int SILK_LOST = 4;
    private static final int ROCK = 5;
    private static final int SICK = 6;
    /** ROCK is no tally, but keeps its place, so that a tally's number is the one that aunt() is asked by. */
    private static final int TALLIES = 7;

    private static int at(int[] row, int i) {
        return row != null && i >= 0 && i < row.length ? row[i] : 0;
    }

    private static void put(int[] row, int i, int value) {
        if (row != null && i >= 0 && i < row.length) {
            row[i] = value;
        }
    }

    private static void copy(int[] from, int[] to) {
        if (from == null || to == null) {
            return;
        }
        for (int i = 0; i < from.length && i < to.length; i++) {
            to[i] = from[i];
        }
    }

    private static int within(int value, int least, int most) {
        return Math.max(least, Math.min(most, value));
    }

    private static boolean between(int value, int least, int most) {
        return value >= least && value <= most;
    }

    /** How it all stands: the baby, who has it, what each aunt had of it. */
    private static final class State {
        int hunger;
        int tired;
        int wonder;
        int wind;
        int held;
        int rock;
        int show;
        int beard;
        int seen;
        int who = NOBODY;
        int before = NOBODY;
        int earlier = NOBODY;
        int cry;
        int asleep;
        int cloth;
        int minute;
        int seed;
        int falls;
        int handed;
        int had;
        final int[] tally = new int[MOST_AUNTS * TALLIES];

        void takeFrom(State other) {
            if (other == null) {
                return;
            }
            hunger = other.hunger;
            tired = other.tired;
            wonder = other.wonder;
            wind = other.wind;
            held = other.held;
            rock = other.rock;
            show = other.show;
            beard = other.beard;
            seen = other.seen;
            who = other.who;
            before = other.before;
            earlier = other.earlier;
            cry = other.cry;
            asleep = other.asleep;
            cloth = other.cloth;
            minute = other.minute;
            seed = other.seed;
            falls = other.falls;
            handed = other.handed;
            had = other.had;
            copy(other.tally, tally);
        }

        /** A VAR of the laws, in the order of the words. */
        int look(int which) {
            switch (which) {
                case 0: return hunger;
                case 1: return tired;
                case 2: return wonder;
                case 3: return wind;
                case 4: return held;
                case 5: return rock;
                case 6: return show;
                case 7: return beard;
                default: return seen;
            }
        }

        void tallyMore(int what, int more) {
            int i = who * TALLIES + what;
            if (i >= 0 && i < tally.length) {
                tally[i] += more;
            }
        }

        int tallied(int aunt, int what) {
            return at(tally, aunt * TALLIES + what);
        }

        int allTallied(int what) {
            int all = 0;
            for (int aunt = 0; aunt < MOST_AUNTS; aunt++) {
                all += tallied(aunt, what);
            }
            return all;
        }
    }

    /** The laws of a text, each as pieces (left, right and value of each if, then the last value), a piece as steps. */
    private static final class Laws {
        static final int VAR_STEP = 10000;
        static final int SIGN_STEP = 20000;
        /** All tokens of a text, and a step for each law that is not told. */
        static final int MOST_STEPS = 420;
        static final int MOST_STACK = 40;
        private static final int[] LEAST_TOLD = {-9, -9, -9, -9, 0, 0, 0};
        private static final int[] MOST_TOLD_BY = {9, 9, 9, 9, 99, 1, 100};

        final int[] steps = new int[MOST_STEPS];
        int stepCount;
        final int[] pieces = new int[MOST_STEPS];
        int pieceCount;
        final int[] firstPiece = new int[LAWS];
        final int[] ifs = new int[LAWS];
        final int[] stack = new int[MOST_STACK];
        boolean divided;

        /** As if each of them was not told: those have one step, as a told one would. */
        void begin() {
            stepCount = 0;
            pieceCount = 0;
            for (int law = 0; law < LAWS; law++) {
                beginLaw(law);
                addStep(law == HUNGERS || law == TIRES ? 1 : 0);
                endPiece();
            }
        }

        void beginLaw(int law) {
            put(firstPiece, law, pieceCount);
            put(ifs, law, 0);
        }

        void addIf(int law) {
            put(ifs, law, at(ifs, law) + 1);
        }

        void addStep(int step) {
            put(steps, stepCount, step);
            stepCount++;
        }

        void endPiece() {
            pieceCount++;
            put(pieces, pieceCount, stepCount);
        }

        void takeFrom(Laws other) {
            copy(other.steps, steps);
            stepCount = other.stepCount;
            copy(other.pieces, pieces);
            pieceCount = other.pieceCount;
            copy(other.firstPiece, firstPiece);
            copy(other.ifs, ifs);
        }

        /** What a law tells, held; 0 if what is looked at is divided by 0. */
        int tells(int law, State s) {
            divided = false;
            int piece = at(firstPiece, law);
            int last = piece + 3 * at(ifs, law);
            int told = 0;
            boolean found = false;
            for (; piece < last && !found && !divided; piece += 3) {
                int left = value(piece, s);
                int right = divided ? 0 : value(piece + 1, s);
                if (!divided && left < right) {
                    told = value(piece + 2, s);
                    found = true;
                }
            }
            if (!found && !divided) {
                told = value(last, s);
            }
            return within(divided ? 0 : told, at(LEAST_TOLD, law), at(MOST_TOLD_BY, law));
        }

        private int value(int piece, State s) {
            int end = at(pieces, piece + 1);
            int top = 0;
            for (int i = at(pieces, piece); i >= 0 && i < end && i < steps.length; i++) {
                int step = steps[i];
                if (step < SIGN_STEP) {
                    put(stack, top, step < VAR_STEP ? step : s.look(step - VAR_STEP));
                    top++;
                } else {
                    top--;
                    put(stack, top - 1, join(step - SIGN_STEP, at(stack, top - 1), at(stack, top)));
                }
            }
            return at(stack, 0);
        }

        private int join(int sign, int left, int right) {
            switch (sign) {
                case '+': return left + right;
                case '-': return left - right;
                case '*': return left * right;
                default:
                    if (right == 0) {
                        divided = true;
                        return 0;
                    }
                    return left / right;
            }
        }
    }

    /** What a text tells. */
    private static final class Told {
        static final int FRESH = 20;
        static final int FEEDS = 30;

        int hunger;
        int tired;
        int wonder;
        int wind;
        int fresh;
        int feeds;
        int seed;
        int aunts;
        final long[] names = new long[MOST_AUNTS];
        final int[] rock = new int[MOST_AUNTS];
        final int[] show = new int[MOST_AUNTS];
        final int[] beard = new int[MOST_AUNTS];
        final int[] silk = new int[MOST_AUNTS];
        final int[] sits = new int[MOST_AUNTS];
        final Laws laws = new Laws();

        void begin() {
            tellBaby(0, 0, 0, 0);
            fresh = FRESH;
            feeds = FEEDS;
            seed = 0;
            aunts = 0;
            laws.begin();
        }

        void tellBaby(int hungerTold, int tiredTold, int wonderTold, int windTold) {
            hunger = hungerTold;
            tired = tiredTold;
            wonder = wonderTold;
            wind = windTold;
        }

        void tellAunt(long name, int[] ways, boolean sitting) {
            if (aunts >= 0 && aunts < names.length) {
                names[aunts] = name;
            }
            put(rock, aunts, at(ways, 0));
            put(show, aunts, at(ways, 1));
            put(beard, aunts, at(ways, 2));
            put(silk, aunts, at(ways, 3));
            put(sits, aunts, sitting ? 1 : 0);
            aunts++;
        }

        boolean knows(long name) {
            for (int i = 0; i < aunts && i < names.length; i++) {
                if (names[i] == name) {
                    return true;
                }
            }
            return false;
        }

        void takeFrom(Told other) {
            tellBaby(other.hunger, other.tired, other.wonder, other.wind);
            fresh = other.fresh;
            feeds = other.feeds;
            seed = other.seed;
            aunts = other.aunts;
            copy(other.rock, rock);
            copy(other.show, show);
            copy(other.beard, beard);
            copy(other.silk, silk);
            copy(other.sits, sits);
            laws.takeFrom(other.laws);
        }
    }

    /** The tape and its reading: first all tokens in rows, then what they tell. */
    private static final class Reader {
        static final int MOST_BYTES = 2000;
        static final int BYTES_FED = 20;
        static final int MOST_TOKENS = 400;
        static final int MOST_IFS = 4;
        static final int MOST_OPEN = 6;
        static final int MOST_WAITING = 40;
        static final int WORD_WIDTH = 8;
        static final int INT_WIDTH = 4;

        static final int SYNTAX = 1;
        static final int ROOM = 2;
        static final int TWICE = 3;
        static final int WRONG = 5;

        /** Each word with blanks up to eight signs, those of the laws and of the VARs in their order. */
        private static final String WORDS =
            "baby    aunt    hungers tires   wonders winds   cries   sleeps  spits   fresh   feeds   seed    sits    if      then    else    hunger  tired   wonder  wind    held    rock    show    beard   seen    ";
        static final int BABY = 0;
        static final int AUNT = 1;
        static final int FIRST_LAW = 2;
        static final int FRESH = 9;
        static final int FEEDS = 10;
        static final int SEED = 11;
        static final int SITS = 12;
        static final int IF = 13;
        static final int THEN = 14;
        static final int ELSE = 15;
        static final int FIRST_VAR = 16;
        static final int LAST_VAR = 24;
        /** Kinds of tokens: a word's number; these; a sign is its own character's number. */
        static final int NAME = 30;
        static final int INT = 31;
        static final int END = 32;
        static final int NO_TOKEN = 33;

        final char[] tape = new char[MOST_BYTES];
        int length;
        final int[] kinds = new int[MOST_TOKENS + 2];
        final long[] worths = new long[MOST_TOKENS + 2];
        final int[] places = new int[MOST_TOKENS + 2];
        int tokens;
        int here;
        final int[] numbers = new int[4];
        final int[] waiting = new int[MOST_WAITING];
        int waitingCount;
        int fault;
        int faultPlace = NONE;
        final Told told = new Told();

        int addBytes(int a, int b, int c, int d, int e) {
            if (length + BYTES_FED > MOST_BYTES) {
                return NONE;
            }
            addFour(a);
            addFour(b);
            addFour(c);
            addFour(d);
            addFour(e);
            return length;
        }

        private void addFour(int four) {
            for (int shift = 24; shift >= 0; shift -= 8) {
                if (length >= 0 && length < tape.length) {
                    tape[length] = (char) (four >>> shift & 255);
                    length++;
                }
            }
        }

        int dropBytes(int n) {
            if (n < 0 || n > length) {
                return NONE;
            }
            length -= n;
            return length;
        }

        private char byteAt(int i) {
            return i >= 0 && i < tape.length ? tape[i] : 0;
        }

        /** The tape's fault, or 0: then told holds what it tells. */
        int readTape() {
            fault = 0;
            faultPlace = NONE;
            told.begin();
            scan();
            here = 0;
            boolean goesOn = true;
            for (int i = 0; i <= MOST_TOKENS && goesOn && kind() != END; i++) {
                goesOn = tellOne();
            }
            length = 0;
            return fault;
        }

        private void scan() {
            tokens = 0;
            int behind = 0;
            for (int i = 0; i < length && tokens <= MOST_TOKENS; i++) {
                char c = byteAt(i);
                if (i >= behind && !isBlank(c)) {
                    behind = endOfRun(i);
                    addToken(i, behind);
                }
            }
            addRow(END, 0, length);
        }

        private static boolean isBlank(char c) {
            return c == 9 || c == 10 || c == 13 || c == 32;
        }

        private static boolean isLetter(char c) {
            return c >= 'a' && c <= 'z';
        }

        private static boolean isDigit(char c) {
            return c >= '0' && c <= '9';
        }

        private static boolean isSign(int c) {
            return c == '+' || c == '-' || c == '*' || c == '/';
        }

        private int endOfRun(int from) {
            boolean letters = isLetter(byteAt(from));
            boolean digits = isDigit(byteAt(from));
            int end = from + 1;
            while (end < length && (letters && isLetter(byteAt(end)) || digits && isDigit(byteAt(end)))) {
                end++;
            }
            return end;
        }

        private void addToken(int from, int end) {
            char c = byteAt(from);
            if (isLetter(c)) {
                addWord(from, end);
            } else if (isDigit(c)) {
                addRow(end - from <= INT_WIDTH ? INT : NO_TOKEN, numberAt(from, end), from);
            } else {
                boolean sign = isSign(c) || c == ';' || c == '=' || c == '<' || c == '(' || c == ')';
                addRow(sign ? c : NO_TOKEN, 0, from);
            }
        }

        private void addWord(int from, int end) {
            if (end - from > WORD_WIDTH) {
                addRow(NO_TOKEN, 0, from);
                return;
            }
            int word = wordAt(from, end);
            addRow(word == NONE ? NAME : word, nameAt(from, end), from);
        }

        private int wordAt(int from, int end) {
            for (int word = 0; word <= LAST_VAR; word++) {
                boolean like = true;
                for (int i = 0; i < WORD_WIDTH && like; i++) {
                    int j = word * WORD_WIDTH + i;
                    char c = from + i < end ? byteAt(from + i) : ' ';
                    like = j >= 0 && j < WORDS.length() && WORDS.charAt(j) == c;
                }
                if (like) {
                    return word;
                }
            }
            return NONE;
        }

        private long nameAt(int from, int end) {
            long name = 0;
            for (int i = from; i < end; i++) {
                name = name * 27 + (byteAt(i) - 'a' + 1);
            }
            return name;
        }

        private int numberAt(int from, int end) {
            int number = 0;
            for (int i = from; i < end; i++) {
                number = number * 10 + (byteAt(i) - '0');
            }
            return number;
        }

        private void addRow(int kind, long worth, int from) {
            put(kinds, tokens, kind);
            put(places, tokens, from);
            if (tokens >= 0 && tokens < worths.length) {
                worths[tokens] = worth;
            }
            tokens++;
        }

        private int kind() {
            return at(kinds, here);
        }

        private long worth() {
            return here >= 0 && here < worths.length ? worths[here] : 0;
        }

        /** Ends the reading: what was noted of numbers and names is of no account then. */
        private boolean fail(int number) {
            fault = number;
            faultPlace = here >= 0 && here < places.length ? places[here] : length;
            return false;
        }

        /** A fault of names and numbers counts only if there is none that ends the reading. */
        private void note(int number) {
            if (fault == 0) {
                fail(number);
            }
        }

        private boolean take() {
            if (here >= MOST_TOKENS) {
                return fail(ROOM);
            }
            here++;
            return true;
        }

        private boolean take(int kind) {
            return kind() == kind ? take() : fail(SYNTAX);
        }

        private boolean takeNumbers(int from, int to, int most) {
            for (int i = from; i < to; i++) {
                int number = (int) worth();
                if (kind() == INT && number > most) {
                    note(WRONG);
                }
                put(numbers, i, number);
                if (!take(INT)) {
                    return false;
                }
            }
            return true;
        }

        private boolean tellOne() {
            int kind = kind();
            if (kind == AUNT) {
                return tellAunt();
            }
            if (kind == BABY) {
                return tellBaby();
            }
            if (kind >= FIRST_LAW && kind < FIRST_LAW + LAWS) {
                return tellLaw(kind - FIRST_LAW);
            }
            if (kind == FRESH || kind == FEEDS || kind == SEED) {
                return tellNumber(kind);
            }
            return fail(SYNTAX);
        }

        private boolean tellBaby() {
            boolean all = take() && takeNumbers(0, 4, MOST) && take(';');
            told.tellBaby(at(numbers, 0), at(numbers, 1), at(numbers, 2), at(numbers, 3));
            return all;
        }

        private boolean tellAunt() {
            if (told.aunts >= MOST_AUNTS) {
                return fail(ROOM);
            }
            if (!take()) {
                return false;
            }
            long name = worth();
            if (kind() == NAME && told.knows(name)) {
                note(TWICE);
            }
            if (!take(NAME) || !takeNumbers(0, 3, 9) || !takeNumbers(3, 4, MOST)) {
                return false;
            }
            boolean sits = kind() == SITS;
            if (sits && !take()) {
                return false;
            }
            told.tellAunt(name, numbers, sits);
            return take(';');
        }

        private boolean tellNumber(int kind) {
            if (!take() || !takeNumbers(0, 1, kind == SEED ? 9999 : MOST)) {
                return false;
            }
            int number = at(numbers, 0);
            if (kind == FRESH) {
                told.fresh = number;
            } else if (kind == FEEDS) {
                told.feeds = number;
            } else {
                told.seed = number;
            }
            return take(';');
        }

        private boolean tellLaw(int law) {
            if (!take() || !take('=')) {
                return false;
            }
            told.laws.beginLaw(law);
            for (int i = 0; i <= MOST_IFS && kind() == IF; i++) {
                if (i == MOST_IFS) {
                    return fail(ROOM);
                }
                if (!take() || !takePiece('<') || !takePiece(THEN) || !takePiece(ELSE)) {
                    return false;
                }
                told.laws.addIf(law);
            }
            return takePiece(';');
        }

        /** One E and what closes it: a sign waits until both its sides are there. */
        private boolean takePiece(int closing) {
            waitingCount = 0;
            int open = 0;
            boolean unitDue = true;
            boolean goesOn = true;
            for (int i = 0; i <= MOST_TOKENS && goesOn; i++) {
                int kind = kind();
                if (unitDue && kind == '(') {
                    if (open >= MOST_OPEN) {
                        return fail(ROOM);
                    }
                    open++;
                    addWaiting(kind);
                } else if (unitDue) {
                    if (!addUnit(kind)) {
                        return fail(SYNTAX);
                    }
                    unitDue = false;
                } else if (isSign(kind)) {
                    endWaiting(rank(kind));
                    addWaiting(kind);
                    unitDue = true;
                } else if (kind == ')' && open > 0) {
                    endWaiting(1);
                    waitingCount--;
                    open--;
                } else if (open == 0 && kind == closing) {
                    endWaiting(1);
                    told.laws.endPiece();
                    goesOn = false;
                } else {
                    return fail(SYNTAX);
                }
                if (!take()) {
                    return false;
                }
            }
            return !goesOn;
        }

        private boolean addUnit(int kind) {
            if (kind == INT) {
                told.laws.addStep((int) worth());
                return true;
            }
            if (kind >= FIRST_VAR && kind <= LAST_VAR) {
                told.laws.addStep(Laws.VAR_STEP + kind - FIRST_VAR);
                return true;
            }
            return false;
        }

        private static int rank(int sign) {
            if (sign == '(') {
                return 0;
            }
            return sign == '*' || sign == '/' ? 2 : 1;
        }

        private void addWaiting(int sign) {
            put(waiting, waitingCount, sign);
            waitingCount++;
        }

        private void endWaiting(int least) {
            while (waitingCount > 0 && rank(at(waiting, waitingCount - 1)) >= least) {
                waitingCount--;
                told.laws.addStep(Laws.SIGN_STEP + at(waiting, waitingCount));
            }
        }
    }

    /** How minutes go by, and what is done by hand. */
    private static final class Day {
        final Told told;

        Day(Told told) {
            this.told = told;
        }

        /** The text's beginning. */
        void begin(State s) {
            s.hunger = told.hunger;
            s.tired = told.tired;
            s.wonder = told.wonder;
            s.wind = told.wind;
            s.seed = told.seed;
            s.seen = 0;
            s.before = NOBODY;
            s.earlier = NOBODY;
            s.cry = 0;
            s.asleep = 0;
            s.cloth = 0;
            s.minute = 0;
            s.falls = 0;
            s.handed = 0;
            s.had = 0;
            for (int i = 0; i < s.tally.length; i++) {
                s.tally[i] = 0;
            }
            giveTo(s, told.aunts > 0 ? 0 : NOBODY);
        }

        private void giveTo(State s, int aunt) {
            s.who = aunt;
            s.held = 0;
            s.rock = at(told.rock, aunt);
            s.show = at(told.show, aunt);
            s.beard = at(told.beard, aunt);
            if (aunt >= 0) {
                s.had |= 1 << aunt;
            }
        }

        void step(State s) {
            if (told.aunts > 0) {
                if (s.asleep > 0) {
                    stepAsleep(s);
                } else {
                    stepAwake(s);
                }
            }
            s.minute++;
        }

        private void stepAsleep(State s) {
            s.hunger = within(s.hunger + told.laws.tells(HUNGERS, s), 0, MOST);
            s.tallyMore(SAT, 1);
            s.cry = 0;
            s.asleep--;
            if (s.asleep == 0) {
                s.tired = 0;
                s.held = 0;
            }
        }

        private void stepAwake(State s) {
            int hungers = told.laws.tells(HUNGERS, s);
            int tires = told.laws.tells(TIRES, s);
            int wonders = told.laws.tells(WONDERS, s);
            int winds = told.laws.tells(WINDS, s);
            s.hunger = within(s.hunger + hungers, 0, MOST);
            s.tired = within(s.tired + tires, 0, MOST);
            s.wonder = within(s.wonder + wonders, 0, MOST);
            s.wind = within(s.wind + winds, 0, MOST);
            s.held++;
            s.cry = told.laws.tells(CRIES, s);
            s.tallyMore(MINUTES_HAD, 1);
            s.tallyMore(CRIED, s.cry);
            if (s.cry == 0 && s.wonder >= MERRY_WONDER) {
                s.tallyMore(LAUGHED, 1);
            }
            if (lot(100, s.seed, s.minute) < told.laws.tells(SPITS, s)) {
                spit(s);
            }
            if (told.laws.tells(SLEEPS, s) > 0) {
                fallAsleep(s);
            }
        }

        private void spit(State s) {
            s.wind = 0;
            s.tallyMore(SICK, 1);
            if (s.cloth == 0) {
                s.tallyMore(SILK_LOST, at(told.silk, s.who));
            }
        }

        private static int lot(int n, int seed, int which) {
            int h = (seed ^ 37) * 1103515245 + 12345;
            h ^= h >>> 15;
            h = (h ^ which) * 1103515245 + 12345;
            h ^= h >>> 15;
            return n == 0 ? 0 : (h >>> 1) % n;
        }

        void fallAsleep(State s) {
            s.asleep = LONG_SLEEP;
            s.falls++;
        }

        /** Hands it to another one, awake. */
        void giveOver(State s, int aunt) {
            if (aunt != s.before && aunt != s.earlier) {
                s.wonder = Math.min(MOST, s.wonder + told.fresh);
            }
            s.earlier = s.before;
            s.before = s.who;
            s.handed++;
            giveTo(s, aunt);
        }

        void feedNow(State s) {
            s.hunger = 0;
            s.wind = Math.min(MOST, s.wind + told.feeds);
        }

        void goOn(State s, int n) {
            for (int i = 0; i < n; i++) {
                step(s);
            }
        }

        /** All CRY of n minutes, gone through. */
        int cried(State s, int n) {
            int ahead = s.allTallied(CRIED);
            for (int i = 0; i < n; i++) {
                step(s);
            }
            return s.allTallied(CRIED) - ahead;
        }

        /** She keeps it m minutes awake, and till it wakes: each of them has one sleep behind it at most. */
        void keep(State s, int aunt, int m) {
            if (s.who != aunt) {
                giveOver(s, aunt);
            }
            int left = m;
            for (int i = 0; i < m * (LONG_SLEEP + 1) && (left > 0 || s.asleep > 0); i++) {
                if (s.asleep == 0) {
                    left--;
                }
                step(s);
            }
        }

        /** n minutes in which a rule hands it on. */
        void goByRule(State s, int rule, int m, int n) {
            for (int i = 0; i < n; i++) {
                if (s.asleep == 0) {
                    int aunt = s.who;
                    if (rule == 0 && s.held >= m || rule == 1 && s.cry >= m) {
                        aunt = behind(s.who);
                    } else if (rule == 2 && s.held >= m) {
                        aunt = fewest(s);
                    }
                    if (aunt != s.who) {
                        giveOver(s, aunt);
                    }
                }
                step(s);
            }
        }

        int behind(int aunt) {
            return aunt + 1 < told.aunts ? aunt + 1 : 0;
        }

        private int fewest(State s) {
            int found = s.who;
            for (int aunt = 0; aunt < told.aunts; aunt++) {
                if (aunt != s.who && (found == s.who
                        || s.tallied(aunt, MINUTES_HAD) < s.tallied(found, MINUTES_HAD))) {
                    found = aunt;
                }
            }
            return found;
        }
    }

    /** The least of what was offered, the first of alike ones. */
    private static final class Least {
        int which;
        int worth;
        boolean any;

        void begin() {
            any = false;
            which = 0;
            worth = 0;
        }

        void offer(int offered, int itsWorth) {
            if (!any || itsWorth < worth) {
                any = true;
                which = offered;
                worth = itsWorth;
            }
        }

        int pick(int what) {
            return what == 0 ? which : worth;
        }
    }

    /** All orders of the aunts, gone through by numbers; orders that begin alike share their beginning. */
    private static final class Orders {
        static final int MOST_ORDERS = 720;

        final Day day;
        /** How it stands behind the first so many aunts of the order, and with whom it has fallen asleep first. */
        final State[] rows = new State[MOST_AUNTS + 1];
        final int[] sleepers = new int[MOST_AUNTS + 1];
        final State nowhere = new State();
        final int[] auntsInOrder = new int[MOST_AUNTS];
        final int[] bestOrder = new int[MOST_AUNTS];
        final int[] lucky = new int[MOST_AUNTS];
        final Least crying = new Least();
        final Least apart = new Least();
        int sitting;
        /** What was searched last: as long as nothing has changed, the same m needs no second search. */
        int searchedMinutes;
        int searchedChange;

        Orders(Day day) {
            this.day = day;
            for (int i = 0; i < rows.length; i++) {
                rows[i] = new State();
            }
        }

        private State row(int i) {
            State s = i >= 0 && i < rows.length ? rows[i] : null;
            return s == null ? nowhere : s;
        }

        void search(State from, int m, int change) {
            if (m == searchedMinutes && change == searchedChange) {
                return;
            }
            searchedMinutes = m;
            searchedChange = change;
            begin(from);
            int changed = 0;
            for (int i = 0; i < MOST_ORDERS && changed >= 0; i++) {
                for (int d = changed; d < day.told.aunts; d++) {
                    State s = row(d + 1);
                    s.takeFrom(row(d));
                    int falls = s.falls;
                    int aunt = at(auntsInOrder, d);
                    day.keep(s, aunt, m);
                    int sleeper = at(sleepers, d);
                    put(sleepers, d + 1, sleeper == NOBODY && s.falls > falls ? aunt : sleeper);
                }
                weigh();
                changed = follow();
            }
        }

        private void begin(State from) {
            row(0).takeFrom(from);
            put(sleepers, 0, NOBODY);
            for (int i = 0; i < MOST_AUNTS; i++) {
                put(auntsInOrder, i, i);
                put(lucky, i, 0);
            }
            crying.begin();
            apart.begin();
            sitting = 0;
        }

        private int share(int aunt, int what) {
            return row(day.told.aunts).tallied(aunt, what) - row(0).tallied(aunt, what);
        }

        private void weigh() {
            int all = 0;
            int luckiest = 0;
            int oftenest = share(0, LAUGHED);
            int seldomest = oftenest;
            for (int aunt = 0; aunt < day.told.aunts; aunt++) {
                int cry = share(aunt, CRIED);
                int laughs = share(aunt, LAUGHED);
                all += cry;
                luckiest = cry < share(luckiest, CRIED) ? aunt : luckiest;
                oftenest = Math.max(oftenest, laughs);
                seldomest = Math.min(seldomest, laughs);
            }
            put(lucky, luckiest, at(lucky, luckiest) + 1);
            sitting += at(day.told.sits, at(sleepers, day.told.aunts));
            apart.offer(at(auntsInOrder, 0), oftenest - seldomest);
            if (!crying.any || all < crying.worth) {
                copy(auntsInOrder, bestOrder);
            }
            crying.offer(0, all);
        }

        /** The order that follows by numbers: from where on it is another one, or NONE. */
        private int follow() {
            int n = day.told.aunts;
            int turn = n - 2;
            while (turn >= 0 && at(auntsInOrder, turn) > at(auntsInOrder, turn + 1)) {
                turn--;
            }
            if (turn < 0) {
                return NONE;
            }
            int other = n - 1;
            while (other > turn && at(auntsInOrder, other) < at(auntsInOrder, turn)) {
                other--;
            }
            change(turn, other);
            for (int i = turn + 1, j = n - 1; i < j; i++, j--) {
                change(i, j);
            }
            return turn;
        }

        private void change(int i, int j) {
            int kept = at(auntsInOrder, i);
            put(auntsInOrder, i, at(auntsInOrder, j));
            put(auntsInOrder, j, kept);
        }
    }

    /** What was done last and can be undone: how it stood ahead of each thing, round and round. */
    private static final class Undoing {
        final State[] rows = new State[MOST_UNDONE];
        int size;
        int behindLast;
        /** Whatever changes how it stands goes through here, and counts. */
        int changes;

        Undoing() {
            for (int i = 0; i < rows.length; i++) {
                rows[i] = new State();
            }
        }

        void begin() {
            size = 0;
            behindLast = 0;
            changes++;
        }

        void note(State s) {
            changes++;
            if (behindLast >= 0 && behindLast < rows.length && rows[behindLast] != null) {
                rows[behindLast].takeFrom(s);
            }
            behindLast = behindLast + 1 < MOST_UNDONE ? behindLast + 1 : 0;
            size = Math.min(MOST_UNDONE, size + 1);
        }

        boolean giveBack(State s) {
            if (size == 0) {
                return false;
            }
            size--;
            changes++;
            behindLast = behindLast > 0 ? behindLast - 1 : MOST_UNDONE - 1;
            if (behindLast >= 0 && behindLast < rows.length) {
                s.takeFrom(rows[behindLast]);
            }
            return true;
        }
    }

    private final Told told = new Told();
    private final Reader reader = new Reader();
    private final Day day = new Day(told);
    private final State state = new State();
    private final State would = new State();
    private final Undoing undoing = new Undoing();
    private final State[] slots = new State[SLOTS];
    private final int[] slotHolds = new int[SLOTS];
    private final Orders orders = new Orders(day);
    private final Least least = new Least();
    /** Laughs with each aunt, six for each set of those who keep it twice as long. */
    private final int[] laughs = new int[(1 << MOST_AUNTS) * MOST_AUNTS];
    private final int[] toldMinutes = new int[MOST_TOLD];
    private final int[] toldCries = new int[MOST_TOLD];
    private int toldCount;

    public BabyRound() {
        for (int i = 0; i < slots.length; i++) {
            slots[i] = new State();
        }
        told.begin();
        day.begin(state);
    }

    public int feed(int a, int b, int c, int d, int e) {
        return reader.addBytes(a, b, c, d, e);
    }

    public int back(int n) {
        return reader.dropBytes(n);
    }

    public int read() {
        int fault = reader.readTape();
        if (fault == 0) {
            told.takeFrom(reader.told);
            day.begin(state);
            undoing.begin();
            toldCount = 0;
            for (int i = 0; i < SLOTS; i++) {
                put(slotHolds, i, 0);
            }
        }
        return fault;
    }

    public int place() {
        return reader.faultPlace;
    }

    public int now(int what) {
        switch (what) {
            case 0: return state.hunger;
            case 1: return state.tired;
            case 2: return state.wonder;
            case 3: return state.wind;
            case 4: return state.who;
            case 5: return state.held;
            case 6: return state.cry;
            case 7: return state.asleep;
            case 8: return state.cloth;
            case 9: return state.seen;
            case 10: return state.before;
            case 11: return state.earlier;
            default: return NONE;
        }
    }

    private boolean isAunt(int aunt) {
        return aunt >= 0 && aunt < told.aunts;
    }

    private boolean asleepOrAlone() {
        return state.asleep > 0 || told.aunts == 0;
    }

    public int aunt(int aunt, int what) {
        if (!isAunt(aunt) || !between(what, 0, TALLIES - 1)) {
            return NONE;
        }
        return what == ROCK ? at(told.rock, aunt) : state.tallied(aunt, what);
    }

    public int law(int which) {
        if (!between(which, 0, LAWS - 1) || told.aunts == 0) {
            return NO_LAW;
        }
        return told.laws.tells(which, state);
    }

    public int minutes(int n) {
        if (!between(n, 0, LONGEST)) {
            return NONE;
        }
        if (n > 0) {
            undoing.note(state);
            day.goOn(state, n);
        }
        return state.minute;
    }

    public boolean hand(int aunt) {
        if (!isAunt(aunt) || aunt == state.who || state.asleep > 0) {
            return false;
        }
        undoing.note(state);
        day.giveOver(state, aunt);
        return true;
    }

    public boolean nurse() {
        if (asleepOrAlone()) {
            return false;
        }
        undoing.note(state);
        day.feedNow(state);
        return true;
    }

    public boolean lay() {
        if (asleepOrAlone()) {
            return false;
        }
        undoing.note(state);
        day.fallAsleep(state);
        return true;
    }

    public boolean cloth(boolean on) {
        boolean was = state.cloth == 1;
        undoing.note(state);
        state.cloth = on ? 1 : 0;
        return was;
    }

    public boolean mother(boolean seen) {
        boolean was = state.seen == 1;
        undoing.note(state);
        state.seen = seen ? 1 : 0;
        return was;
    }

    public boolean undo() {
        return undoing.giveBack(state);
    }

    public int crying(int n) {
        if (!between(n, 0, LONGEST)) {
            return NONE;
        }
        would.takeFrom(state);
        return day.cried(would, n);
    }

    public int next(int n, int what) {
        if (!between(n, 1, LONG) || !between(what, 0, 1)) {
            return NONE;
        }
        if (state.asleep > 0 || told.aunts < 2) {
            return NOT_SO;
        }
        least.begin();
        for (int aunt = 0; aunt < told.aunts; aunt++) {
            if (aunt != state.who) {
                would.takeFrom(state);
                day.giveOver(would, aunt);
                least.offer(aunt, day.cried(would, n));
            }
        }
        return least.pick(what);
    }

    public int order(int m) {
        if (!between(m, 1, MOST_KEPT)) {
            return NONE;
        }
        if (asleepOrAlone()) {
            return NOT_SO;
        }
        orders.search(state, m, undoing.changes);
        return orders.crying.worth;
    }

    public int orderAt(int m, int i) {
        if (!between(m, 1, MOST_KEPT) || i < 0) {
            return NONE;
        }
        if (asleepOrAlone()) {
            return NOT_SO;
        }
        if (i >= told.aunts) {
            return NONE;
        }
        orders.search(state, m, undoing.changes);
        return at(orders.bestOrder, i);
    }

    public int sitters(int m) {
        if (!between(m, 1, MOST_KEPT)) {
            return NONE;
        }
        if (asleepOrAlone()) {
            return NOT_SO;
        }
        orders.search(state, m, undoing.changes);
        return orders.sitting;
    }

    public int luck(int aunt, int m) {
        if (!isAunt(aunt) || !between(m, 1, MOST_KEPT)) {
            return NONE;
        }
        if (asleepOrAlone()) {
            return NOT_SO;
        }
        orders.search(state, m, undoing.changes);
        return at(orders.lucky, aunt);
    }

    public int wants(int n, int what) {
        if (!between(n, 1, LONG) || !between(what, 0, 1)) {
            return NONE;
        }
        if (asleepOrAlone()) {
            return NOT_SO;
        }
        least.begin();
        for (int wish = 0; wish < 4 + told.aunts; wish++) {
            if (wish - 4 != state.who) {
                would.takeFrom(state);
                grant(wish);
                least.offer(wish, day.cried(would, n));
            }
        }
        return least.pick(what);
    }

    private void grant(int wish) {
        if (wish == 1) {
            day.feedNow(would);
        } else if (wish == 2) {
            day.fallAsleep(would);
        } else if (wish == 3) {
            would.seen = 1 - would.seen;
        } else if (wish >= 4) {
            day.giveOver(would, wish - 4);
        }
    }

    /** All CRY of n minutes, its mother in sight for the first few. */
    private int criedInSight(int few, int n) {
        would.takeFrom(state);
        would.seen = 1;
        int cried = day.cried(would, few);
        would.seen = 0;
        return cried + day.cried(would, n - few);
    }

    public int moment(int n) {
        if (!between(n, 1, LONG)) {
            return NO_MOMENT;
        }
        return criedInSight(1, n) - criedInSight(0, n);
    }

    public int beat(int aunt, int n, int what) {
        if (!isAunt(aunt) || !between(n, 1, LONG) || !between(what, 0, 1)) {
            return NONE;
        }
        if (state.asleep > 0) {
            return NOT_SO;
        }
        least.begin();
        for (int rock = 0; rock <= 9; rock++) {
            would.takeFrom(state);
            if (aunt != would.who) {
                day.giveOver(would, aunt);
            }
            would.rock = rock;
            least.offer(rock, day.cried(would, n));
        }
        return least.pick(what);
    }

    public int round(int rule, int m, int n, int what) {
        if (!between(rule, 0, RULES - 1) || !between(m, 1, MOST_RULE) || !between(n, 1, LONGEST)
                || !between(what, 0, 2) || told.aunts == 0) {
            return NONE;
        }
        would.takeFrom(state);
        day.goByRule(would, rule, m, n);
        if (what == 2) {
            return would.who;
        }
        int tally = what == 0 ? CRIED : LAUGHED;
        return would.allTallied(tally) - state.allTallied(tally);
    }

    public int fairest(int m, int what) {
        if (!between(m, 1, MOST_KEPT) || !between(what, 0, 1)) {
            return NONE;
        }
        if (asleepOrAlone()) {
            return NOT_SO;
        }
        orders.search(state, m, undoing.changes);
        return what == 0 ? orders.apart.worth : orders.apart.which;
    }

    public int leftOut(int m, int what) {
        if (!between(m, 1, MOST_KEPT) || !between(what, 0, 1)) {
            return NONE;
        }
        if (asleepOrAlone()) {
            return NOT_SO;
        }
        least.begin();
        for (int out = 0; out < told.aunts; out++) {
            would.takeFrom(state);
            for (int aunt = 0; aunt < told.aunts; aunt++) {
                if (aunt != out) {
                    day.keep(would, aunt, m);
                }
            }
            least.offer(out, would.allTallied(CRIED) - state.allTallied(CRIED));
        }
        return least.pick(what);
    }

    public int bestRound(int n, int what) {
        if (!between(n, 1, LONG) || !between(what, 0, 1) || told.aunts == 0) {
            return NONE;
        }
        least.begin();
        for (int rule = 0; rule < RULES; rule++) {
            for (int m = 1; m <= MOST_RULE; m++) {
                would.takeFrom(state);
                day.goByRule(would, rule, m, n);
                least.offer(100 * rule + m, would.allTallied(CRIED) - state.allTallied(CRIED));
            }
        }
        return least.pick(what);
    }

    public int feedAt(int n, int what) {
        if (!between(n, 1, SHORT) || !between(what, 0, 1)) {
            return NONE;
        }
        if (asleepOrAlone()) {
            return NOT_SO;
        }
        least.begin();
        for (int behind = 0; behind < n; behind++) {
            would.takeFrom(state);
            int cried = day.cried(would, behind);
            if (would.asleep == 0) {
                day.feedNow(would);
                least.offer(behind, cried + day.cried(would, n - behind));
            }
        }
        return least.pick(what);
    }

    public int inSight(int n, int what) {
        if (!between(n, 1, SHORT) || !between(what, 0, 1)) {
            return NONE;
        }
        least.begin();
        for (int few = 0; few <= n; few++) {
            least.offer(few, criedInSight(few, n));
        }
        return least.pick(what);
    }

    public int peak(int n, int what) {
        if (!between(n, 1, LONGEST) || !between(what, 0, 1)) {
            return NONE;
        }
        would.takeFrom(state);
        int greatest = -1;
        int which = 0;
        for (int i = 0; i < n; i++) {
            day.step(would);
            if (would.cry > greatest) {
                greatest = would.cry;
                which = i;
            }
        }
        return what == 0 ? greatest : which;
    }

    public int merry() {
        would.takeFrom(state);
        int laughed = state.allTallied(LAUGHED);
        for (int behind = 1; behind <= LONGEST; behind++) {
            day.step(would);
            if (would.allTallied(LAUGHED) > laughed) {
                return behind;
            }
        }
        return NOT_SO;
    }

    public int rests(int m, int i) {
        if (!between(m, 1, MOST_KEPT) || i < NONE) {
            return NONE;
        }
        if (asleepOrAlone()) {
            return NOT_SO;
        }
        int sets = 1 << told.aunts;
        for (int set = 0; set < sets; set++) {
            laughInSet(set, m);
        }
        int found = 0;
        for (int set = 0; set < sets; set++) {
            if (isAtRest(set)) {
                if (found == i) {
                    return set;
                }
                found++;
            }
        }
        return i == NONE ? found : NONE;
    }

    private void laughInSet(int set, int m) {
        would.takeFrom(state);
        int aunt = state.who;
        for (int i = 0; i < told.aunts; i++) {
            day.keep(would, aunt, (set >> aunt & 1) == 1 ? 2 * m : m);
            put(laughs, set * MOST_AUNTS + aunt, would.tallied(aunt, LAUGHED) - state.tallied(aunt, LAUGHED));
            aunt = day.behind(aunt);
        }
    }

    private boolean isAtRest(int set) {
        for (int aunt = 0; aunt < told.aunts; aunt++) {
            int other = set ^ 1 << aunt;
            if (at(laughs, other * MOST_AUNTS + aunt) > at(laughs, set * MOST_AUNTS + aunt)) {
                return false;
            }
        }
        return true;
    }

    public int silk(int n, int s) {
        if (!between(n, 0, LONG) || !between(s, 1, MOST_RULE)) {
            return NONE;
        }
        int lost = 0;
        for (int i = 0; i < s; i++) {
            would.takeFrom(state);
            would.seed = told.seed + i;
            day.goOn(would, n);
            lost += would.allTallied(SILK_LOST) - state.allTallied(SILK_LOST);
        }
        return lost;
    }

    public int likes(int aunt, boolean below) {
        if (!isAunt(aunt)) {
            return NONE;
        }
        int had = state.tallied(aunt, MINUTES_HAD);
        if (had == 0) {
            return NOT_SO;
        }
        int cried = state.tallied(aunt, CRIED);
        int divisor = commonDivisor(had, cried);
        if (divisor == 0) {
            return NOT_SO;
        }
        return below ? had / divisor : cried / divisor;
    }

    private static int commonDivisor(int a, int b) {
        for (int i = 0; i < MOST_DIVISIONS && b != 0; i++) {
            int rest = a % b;
            a = b;
            b = rest;
        }
        return a;
    }

    public int sleeps() {
        would.takeFrom(state);
        for (int behind = 0; behind < LONGEST; behind++) {
            if (would.asleep > 0) {
                return behind;
            }
            day.step(would);
        }
        return would.asleep > 0 ? LONGEST : NOT_SO;
    }

    public int tell(int minute, int cry) {
        if (!between(minute, 0, SHORT - 1) || !between(cry, 0, MOST) || toldCount >= MOST_TOLD) {
            return NONE;
        }
        put(toldMinutes, toldCount, minute);
        put(toldCries, toldCount, cry);
        toldCount++;
        return toldCount - 1;
    }

    public int forget() {
        int were = toldCount;
        toldCount = 0;
        return were;
    }

    public int fed(int k, int i) {
        if (!between(k, 0, toldCount) || i < NONE) {
            return NONE;
        }
        int found = 0;
        for (int hunger = 0; hunger <= MOST; hunger++) {
            if (criesAsTold(hunger, k)) {
                if (found == i) {
                    return hunger;
                }
                found++;
            }
        }
        return i == NONE ? found : NONE;
    }

    private boolean criesAsTold(int hunger, int k) {
        day.begin(would);
        would.hunger = hunger;
        for (int minute = 0; minute < SHORT; minute++) {
            day.step(would);
            for (int j = 0; j < k; j++) {
                if (at(toldMinutes, j) == minute && at(toldCries, j) != would.cry) {
                    return false;
                }
            }
        }
        return true;
    }

    public boolean hold(int slot) {
        if (slot < 0 || slot >= slots.length || slots[slot] == null) {
            return false;
        }
        slots[slot].takeFrom(state);
        put(slotHolds, slot, 1);
        return true;
    }

    public boolean restore(int slot) {
        if (slot < 0 || slot >= slots.length || at(slotHolds, slot) == 0) {
            return false;
        }
        state.takeFrom(slots[slot]);
        undoing.begin();
        return true;
    }

    public int count(int what) {
        switch (what) {
            case 0: return told.aunts;
            case 1: return state.minute;
            case 2: return state.allTallied(CRIED);
            case 3: return state.allTallied(LAUGHED);
            case 4: return state.allTallied(SILK_LOST);
            case 5: return state.falls;
            case 6: return state.handed;
            case 7: return reader.length;
            case 8: return undoing.size;
            case 9: return toldCount;
            case 10: return at(slotHolds, 0) + at(slotHolds, 1) + at(slotHolds, 2);
            case 11: return told.fresh;
            case 12: return told.feeds;
            case 13: return state.had;
            default: return NONE;
        }
    }
}
