import java.util.Arrays;
import java.util.NoSuchElementException;

/** Code made hot in steps, as the document tells it: a PROGRAM, its RUNS, and what its PLACES learn by them. */
public final class HeatedCode {
    public static final int NONE = -1;

    private static final int MOST_BYTES = 600;
    private static final int BYTES_OF_A_FEED = 20;
    private static final int MOST_FUNCTIONS = 4;
    private static final int MOST_PARAMETERS = 3;
    private static final int MOST_PLACES = 40;
    private static final int MOST_OPEN = 6;
    private static final int MOST_LETTERS = 6;
    private static final int MOST_STEPS = 2000;
    private static final int MOST_FRAMES = 8;
    private static final int MOST_NOTES = 16;
    private static final int VARIABLES = 8;
    private static final int GIVEN_ONES = 3;

    private static final int MOST_GLOW = 99;
    /** The PLAIN ones have this GLOW: no RUN of 2,000 STEPS comes to such a HEAT. */
    private static final int GLOW_OF_NO_HEAT = 1_000_000;
    private static final int MOST_PATIENCE = 9;
    private static final int MOST_RUNS = 30;
    private static final int MOST_TUNED_RUNS = 8;
    private static final int MOST_TUNED_GLOW = 24;

    private static final int NOTHING = 0;
    private static final int WHOLE = 1;
    private static final int WIDE = 2;
    private static final int WORD = 3;

    private static final int PLUS = 0;
    private static final int MINUS = 1;
    private static final int TIMES = 2;
    private static final int OVER = 3;
    private static final int REST = 4;
    private static final int LESS = 5;
    private static final int ALIKE = 6;
    private static final int WHILE = 7;
    private static final int IF = 8;

    private static final int HAS_A_VALUE = 0;
    private static final int STUCK = 1;
    private static final int SPENT = 2;

    private static final int OPEN_GUESS = -2;
    private static final int NEVER_GUESS = -3;

    private final int[] tape = new int[MOST_BYTES];
    private int tapeLength;
    private int faultPlace = NONE;
    private final Reader reader = new Reader();
    private Program toldProgram = new Program();
    private Program spareProgram = new Program();
    private final Values givenOnes = new Values(GIVEN_ONES);
    private final Learnt learnt = new Learnt();
    private final Learnt trial = new Learnt();
    private final Run latestRun = new Run();
    private final Run triedRun = new Run();
    private final Machine machine = new Machine(toldProgram, givenOnes, learnt, latestRun);
    private int refusedElements;
    private int refusedArguments;

    public HeatedCode() {
    }

    // ---- the PROGRAM

    public int feed(int a, int b, int c, int d, int e) {
        if (tapeLength > MOST_BYTES - BYTES_OF_A_FEED) {
            return NONE;
        }
        layOnTape(a);
        layOnTape(b);
        layOnTape(c);
        layOnTape(d);
        layOnTape(e);
        return tapeLength;
    }

    private void layOnTape(int bytes) {
        for (int shift = 24; shift >= 0 && tapeLength < MOST_BYTES; shift -= 8) {
            tape[tapeLength] = (bytes >>> shift) & 255;
            tapeLength++;
        }
    }

    public int program(int n) throws IllegalArgumentException {
        needArgument(n >= 0 && n <= tapeLength);
        tapeLength = 0;
        reader.read(tape, n, spareProgram);
        faultPlace = reader.faultPlace;
        if (reader.fault != Reader.NO_FAULT) {
            return reader.fault - 10;
        }
        // the one read ahead of this is kept as the spare one, so that no text makes new rows
        Program read = spareProgram;
        spareProgram = toldProgram;
        toldProgram = read;
        machine.load(read);
        learnt.becomeFresh();
        return read.functions;
    }

    public int fault() {
        return faultPlace;
    }

    public void give(int k, int kind, long number) throws IllegalArgumentException {
        needArgument(isWithin(k, GIVEN_ONES) && Sum.isOfKind(kind, number));
        givenOnes.put(k, kind, number);
    }

    // ---- RUNS, and what is set for them

    public int run(int function) throws NoSuchElementException {
        needFunction(function);
        machine.perform(function, learnt, latestRun);
        return latestRun.outcome;
    }

    public int runs(int function, int many) throws NoSuchElementException, IllegalArgumentException {
        needFunction(function);
        needArgument(isFromOneTo(many, MOST_RUNS));
        int withValue = 0;
        for (int k = 0; k < many; k++) {
            machine.perform(function, learnt, latestRun);
            if (latestRun.outcome == HAS_A_VALUE) {
                withValue++;
            }
        }
        return withValue;
    }

    public int glow(int heat) throws IllegalArgumentException {
        needArgument(isFromOneTo(heat, MOST_GLOW));
        int before = learnt.glow;
        learnt.glow = heat;
        return before;
    }

    public int patience(int exits) throws IllegalArgumentException {
        needArgument(isFromOneTo(exits, MOST_PATIENCE));
        int before = learnt.patience;
        learnt.patience = exits;
        return before;
    }

    public int cool(int function) throws NoSuchElementException {
        needFunction(function);
        int had = learnt.isHot(function) ? 1 : 0;
        learnt.coolDown(function);
        return had;
    }

    public int forget(int place) throws NoSuchElementException {
        needPlace(place);
        int had = learnt.seen[place];
        learnt.forgetPlace(place);
        learnt.coolDown(toldProgram.placeFunctions[place]);
        return had;
    }

    public int clear() {
        int before = learnt.runsDone;
        learnt.becomeFresh();
        return before;
    }

    // ---- what is told of it all

    public int told(int what) throws IllegalArgumentException {
        needArgument(isWithin(what, 7));
        switch (what) {
            case 0:
                return toldProgram.functions;
            case 1:
                return toldProgram.places;
            case 2:
                return learnt.glow;
            case 3:
                return learnt.patience;
            case 4:
                return learnt.runsDone;
            case 5:
                return learnt.hotFunctions();
            default:
                return tapeLength;
        }
    }

    public int latest(int what) throws IllegalArgumentException {
        needArgument(isWithin(what, 11));
        return hasRun() ? latestRun.tell(what) : NONE;
    }

    public long value() {
        return hasRun() ? latestRun.valueNumber : 0;
    }

    public int cost() {
        return hasRun() ? latestRun.costSum : 0;
    }

    public long costs() {
        return learnt.costSum;
    }

    public long given(int k, int what) throws IllegalArgumentException {
        needArgument(isWithin(k, GIVEN_ONES) && isWithin(what, 2));
        return what == 0 ? givenOnes.numberAt(k) : givenOnes.kindAt(k);
    }

    public int function(int function, int what) throws NoSuchElementException, IllegalArgumentException {
        needFunction(function);
        needArgument(isWithin(what, 11));
        switch (what) {
            case 0:
                return toldProgram.parameters[function];
            case 8:
                return toldProgram.placeCounts[function] == 0 ? NONE : toldProgram.firstPlaces[function];
            case 9:
                return toldProgram.placeCounts[function];
            case 10:
                return toldProgram.callees[function];
            default:
                return learnt.tellFunction(function, what);
        }
    }

    public int place(int place, int what) throws NoSuchElementException, IllegalArgumentException {
        needPlace(place);
        needArgument(isWithin(what, 8));
        switch (what) {
            case 0:
                return toldProgram.placeFunctions[place];
            case 1:
                return toldProgram.placeSigns[place];
            case 6:
                return learnt.isHot(toldProgram.placeFunctions[place]) ? learnt.guesses[place] : NONE;
            default:
                return learnt.tellPlace(place, what);
        }
    }

    // ---- NOTES

    public int notes() {
        return hasRun() ? latestRun.exitNotes.many : 0;
    }

    public int note(int k, int what) throws NoSuchElementException, IllegalArgumentException {
        needNote(k);
        needArgument(isWithin(what, Notes.ROW));
        return latestRun.exitNotes.tell(k, what);
    }

    public int kind(int k, int variable) throws NoSuchElementException, IllegalArgumentException {
        needNote(k);
        needArgument(isWithin(variable, VARIABLES));
        return latestRun.exitNotes.variables.kindAt(k * VARIABLES + variable);
    }

    public long number(int k, int variable) throws NoSuchElementException, IllegalArgumentException {
        needNote(k);
        needArgument(isWithin(variable, VARIABLES));
        return latestRun.exitNotes.variables.numberAt(k * VARIABLES + variable);
    }

    // ---- what is asked: done on what is learnt for trial, so that nothing stays changed

    public int plain(int function, int what) throws NoSuchElementException, IllegalArgumentException {
        needFunction(function);
        needArgument(isWithin(what, 6));
        tryPlainly(function);
        switch (what) {
            case 0:
                return triedRun.outcome;
            case 1:
                return triedRun.valueKind;
            case 2:
                return triedRun.steps;
            case 3:
                return triedRun.stuckPlace;
            case 4:
                return triedRun.mostFrames;
            default:
                return triedRun.costSum;
        }
    }

    public long plainly(int function) throws NoSuchElementException {
        needFunction(function);
        tryPlainly(function);
        return triedRun.valueNumber;
    }

    public int often(int function, int place) throws NoSuchElementException {
        needFunction(function);
        needPlace(place);
        tryPlainly(function);
        return triedRun.placesDone[place];
    }

    public int pairs(int function, int place) throws NoSuchElementException {
        needFunction(function);
        needPlace(place);
        tryPlainly(function);
        return trial.seen[place];
    }

    public int ahead(int function, int many, int what) throws NoSuchElementException, IllegalArgumentException {
        needFunction(function);
        needArgument(isFromOneTo(many, MOST_RUNS) && isWithin(what, 5));
        trial.becomeAs(learnt);
        int answer = 0;
        for (int k = 1; k <= many; k++) {
            machine.perform(function, trial, triedRun);
            if (what == 3) {
                answer = triedRun.hasMoved() ? k : answer;
            } else {
                answer += aheadOfOne(what);
            }
        }
        return answer;
    }

    private int aheadOfOne(int what) {
        switch (what) {
            case 0:
                return triedRun.costSum;
            case 1:
                return triedRun.exitCount;
            case 2:
                return triedRun.madeCount;
            default:
                return triedRun.hotSteps;
        }
    }

    public int pays(int function) throws NoSuchElementException {
        needFunction(function);
        tryPlainly(function);
        long costOfAPlainOne = triedRun.costSum;
        makeTrialFresh();
        for (int k = 1; k <= MOST_RUNS; k++) {
            machine.perform(function, trial, triedRun);
            if (trial.costSum < k * costOfAPlainOne) {
                return k;
            }
        }
        return NONE;
    }

    public int tune(int function, int many, int what) throws NoSuchElementException, IllegalArgumentException {
        needFunction(function);
        needArgument(isFromOneTo(many, MOST_TUNED_RUNS) && isWithin(what, 2));
        int best = NONE;
        long least = 0;
        for (int heat = 1; heat <= MOST_TUNED_GLOW; heat++) {
            makeTrialFresh();
            trial.glow = heat;
            long costOfThese = tryRuns(function, many);
            if (best == NONE || costOfThese < least) {
                best = heat;
                least = costOfThese;
            }
        }
        return what == 0 ? best : (int) least;
    }

    public int bear(int function, int many, int what) throws NoSuchElementException, IllegalArgumentException {
        needFunction(function);
        needArgument(isFromOneTo(many, MOST_TUNED_RUNS) && isWithin(what, 2));
        int best = NONE;
        long least = 0;
        for (int exits = 1; exits <= MOST_PATIENCE; exits++) {
            makeTrialFresh();
            trial.patience = exits;
            long costOfThese = tryRuns(function, many);
            if (best == NONE || costOfThese < least) {
                best = exits;
                least = costOfThese;
            }
        }
        return what == 0 ? best : (int) least;
    }

    public int sorest(int function, int many, int what) throws NoSuchElementException, IllegalArgumentException {
        needFunction(function);
        needArgument(isFromOneTo(many, MOST_RUNS) && isWithin(what, 2));
        trial.becomeAs(learnt);
        tryRuns(function, many);
        int sorest = NONE;
        int most = 0;
        for (int place = 0; place < MOST_PLACES; place++) {
            int more = trial.placeExits[place] - learnt.placeExits[place];
            if (more > most) {
                sorest = place;
                most = more;
            }
        }
        return what == 0 ? sorest : most;
    }

    public int until(int function) throws NoSuchElementException {
        needFunction(function);
        trial.becomeAs(learnt);
        machine.perform(function, trial, triedRun);
        return triedRun.calmSteps == NONE ? triedRun.steps : triedRun.calmSteps;
    }

    public int status(int what) {
        if (what == 0) {
            return refusedElements;
        }
        return what == 1 ? refusedArguments : NONE;
    }

    private void makeTrialFresh() {
        trial.becomeFresh();
        trial.glow = learnt.glow;
        trial.patience = learnt.patience;
    }

    private void tryPlainly(int function) {
        makeTrialFresh();
        trial.glow = GLOW_OF_NO_HEAT;
        machine.perform(function, trial, triedRun);
    }

    /** COST of all that was tried since the trial was made fresh. */
    private long tryRuns(int function, int many) {
        for (int k = 0; k < many; k++) {
            machine.perform(function, trial, triedRun);
        }
        return trial.costSum;
    }

    private boolean hasRun() {
        return learnt.runsDone > 0;
    }

    // ---- refusals

    private void needFunction(int function) throws NoSuchElementException {
        if (function < 0 || function >= toldProgram.functions) {
            refusedElements++;
            throw new NoSuchElementException("no such FUNCTION");
        }
    }

    private void needPlace(int place) throws NoSuchElementException {
        if (place < 0 || place >= toldProgram.places) {
            refusedElements++;
            throw new NoSuchElementException("no such PLACE");
        }
    }

    private void needNote(int k) throws NoSuchElementException {
        if (!hasRun() || k < 0 || k >= latestRun.exitNotes.many) {
            refusedElements++;
            throw new NoSuchElementException("no such NOTE");
        }
    }

    private void needArgument(boolean fits) throws IllegalArgumentException {
        if (!fits) {
            refusedArguments++;
            throw new IllegalArgumentException("an argument that is none");
        }
    }

    private static boolean isWithin(int k, int many) {
        return k >= 0 && k < many;
    }

    private static boolean isFromOneTo(int k, int most) {
        return k >= 1 && k <= most;
    }

    /** A row of VALUES, each a KIND and a NUMBER; all that is beyond the row is NONE. */
    private static final class Values {
        private final int[] kinds;
        private final long[] numbers;

        Values(int many) {
            int size = many < 0 ? 0 : many;
            kinds = new int[size];
            numbers = new long[size];
        }

        int kindAt(int k) {
            return k >= 0 && k < kinds.length ? kinds[k] : NOTHING;
        }

        long numberAt(int k) {
            return k >= 0 && k < numbers.length ? numbers[k] : 0;
        }

        void put(int k, int kind, long number) {
            if (k >= 0 && k < kinds.length && k < numbers.length) {
                kinds[k] = kind;
                numbers[k] = number;
            }
        }

        void copy(int to, Values source, int from, int many) {
            for (int k = 0; k < many; k++) {
                boolean fits = to + k >= 0 && to + k < kinds.length && to + k < numbers.length;
                if (fits && from + k >= 0 && from + k < source.kinds.length && from + k < source.numbers.length) {
                    kinds[to + k] = source.kinds[from + k];
                    numbers[to + k] = source.numbers[from + k];
                }
            }
        }
    }

    /** An S done by the KINDS of its two VALUES, and what the NUMBERS of KINDS are. */
    private static final class Sum {
        private static final int BITS_OF_A_LETTER = 5;
        private static final int MOST_LETTER = 26;

        private int kindOut;
        private long numberOut;

        static boolean isOfKind(int kind, long number) {
            switch (kind) {
                case NOTHING:
                    return number == 0;
                case WHOLE:
                    return number == (int) number;
                case WIDE:
                    return true;
                case WORD:
                    return isWord(number);
                default:
                    return false;
            }
        }

        static boolean isNumber(int kind) {
            return kind == WHOLE || kind == WIDE;
        }

        static long withLetter(long word, int letter) {
            return (word << BITS_OF_A_LETTER) + letter;
        }

        private static boolean isWord(long number) {
            long rest = number;
            for (int k = 0; k < MOST_LETTERS && rest > 0; k++) {
                long letter = rest & 31;
                if (letter < 1 || letter > MOST_LETTER) {
                    return false;
                }
                rest >>= BITS_OF_A_LETTER;
            }
            return rest == 0;
        }

        private static int lettersOf(long word) {
            int letters = 0;
            while (letters < MOST_LETTERS && word >> (letters * BITS_OF_A_LETTER) > 0) {
                letters++;
            }
            return letters;
        }

        /** Whether it can be done; kindOut and numberOut are what comes out then. */
        boolean isDone(int sign, int leftKind, long left, int rightKind, long right) {
            if (isNumber(leftKind) && isNumber(rightKind)) {
                return isDoneOfNumbers(sign, left, right, leftKind == WHOLE && rightKind == WHOLE);
            }
            if (leftKind == WORD && rightKind == WORD) {
                return isDoneOfWords(sign, left, right);
            }
            putTruth(leftKind == NOTHING && rightKind == NOTHING);
            return sign == ALIKE;
        }

        private boolean isDoneOfNumbers(int sign, long left, long right, boolean wholes) {
            if (sign == LESS || sign == ALIKE) {
                putTruth(sign == LESS ? left < right : left == right);
                return true;
            }
            if ((sign == OVER || sign == REST) && right == 0) {
                return false;
            }
            numberOut = reckon(sign, left, right);
            kindOut = wholes && numberOut == (int) numberOut ? WHOLE : WIDE;
            return true;
        }

        private static long reckon(int sign, long left, long right) {
            switch (sign) {
                case PLUS:
                    return left + right;
                case MINUS:
                    return left - right;
                case TIMES:
                    return left * right;
                case OVER:
                    return right == 0 ? 0 : left / right;
                default:
                    return right == 0 ? 0 : left % right;
            }
        }

        private boolean isDoneOfWords(int sign, long left, long right) {
            int ahead = lettersOf(left);
            int behind = lettersOf(right);
            switch (sign) {
                case PLUS:
                    kindOut = WORD;
                    numberOut = join(left, ahead, right, behind);
                    return true;
                case LESS:
                    putTruth(fill(left, ahead) < fill(right, behind));
                    return true;
                case ALIKE:
                    putTruth(left == right);
                    return true;
                default:
                    return false;
            }
        }

        private static long join(long left, int ahead, long right, int behind) {
            int letters = ahead + behind;
            int tooMany = letters > MOST_LETTERS ? letters - MOST_LETTERS : 0;
            return ((left << (behind * BITS_OF_A_LETTER)) + right) >> (tooMany * BITS_OF_A_LETTER);
        }

        /** Filled up to six letters, so that NUMBERS stand as in a dictionary: none ahead of a. */
        private static long fill(long word, int letters) {
            return word << ((MOST_LETTERS - letters) * BITS_OF_A_LETTER);
        }

        private void putTruth(boolean truth) {
            kindOut = WHOLE;
            numberOut = truth ? 1 : 0;
        }
    }

    /** A PROGRAM that was read: its tables, and its code for the machine, one FUNCTION behind the other. */
    private static final class Program {
        static final int PUSH = 0;
        static final int LOAD = 1;
        static final int JUMP = 2;
        static final int TURN = 3;
        static final int END = 4;
        /** From this one on they are STEPS. */
        static final int FIRST_STEP = 5;
        static final int SET = 5;
        static final int SIGN = 6;
        static final int TEST = 7;
        static final int CALL = 8;
        static final int RETURN = 9;

        private int functions;
        private int places;
        private int length;
        private final int[] parameters = new int[MOST_FUNCTIONS];
        private final int[] entries = new int[MOST_FUNCTIONS];
        private final int[] firstPlaces = new int[MOST_FUNCTIONS];
        private final int[] placeCounts = new int[MOST_FUNCTIONS];
        private final int[] callees = new int[MOST_FUNCTIONS];
        private final int[] placeFunctions = new int[MOST_PLACES];
        private final int[] placeSigns = new int[MOST_PLACES];
        // no byte of a text is the cause of more than one of these
        private final int[] codes = new int[MOST_BYTES];
        private final int[] lefts = new int[MOST_BYTES];
        private final long[] rights = new long[MOST_BYTES];

        void empty() {
            functions = 0;
            places = 0;
            length = 0;
        }

        void beginFunction(int parameterCount) {
            if (functions < MOST_FUNCTIONS) {
                parameters[functions] = parameterCount;
                entries[functions] = length;
                firstPlaces[functions] = places;
                placeCounts[functions] = 0;
                callees[functions] = 0;
                functions++;
            }
        }

        int addPlace(int sign) {
            int function = functions - 1;
            if (places >= MOST_PLACES || function < 0 || function >= MOST_FUNCTIONS) {
                return NONE;
            }
            placeFunctions[places] = function;
            placeSigns[places] = sign;
            placeCounts[function]++;
            places++;
            return places - 1;
        }

        void addCallee(int callee) {
            int function = functions - 1;
            if (function >= 0 && function < MOST_FUNCTIONS) {
                callees[function] |= 1 << callee;
            }
        }

        int add(int code, int left, long right) {
            if (length >= MOST_BYTES) {
                return NONE;
            }
            codes[length] = code;
            lefts[length] = left;
            rights[length] = right;
            length++;
            return length - 1;
        }

        /** What goes on from at goes on at the code that comes next. */
        void aimAtNext(int at) {
            if (at >= 0 && at < MOST_BYTES) {
                rights[at] = length;
            }
        }

        int codeAt(int at) {
            return at >= 0 && at < length && at < MOST_BYTES ? codes[at] : END;
        }

        int leftAt(int at) {
            return at >= 0 && at < MOST_BYTES ? lefts[at] : 0;
        }

        long rightAt(int at) {
            return at >= 0 && at < MOST_BYTES ? rights[at] : 0;
        }
    }

    /** Reads a text into a PROGRAM, from the left, up to the first FAULT. */
    private static final class Reader {
        static final int NO_FAULT = 0;
        private static final int CANNOT_STAND = 1;
        private static final int NO_SUCH_NUMBER = 2;
        private static final int TOO_MANY = 3;
        private static final int NO_SUCH_FUNCTION = 4;

        private static final int BLANK = 32;
        private static final int QUOTE = 39;
        private static final long MOST_NUMBER = 999_999_999_999L;
        private static final int UNITS = 3;

        private int fault;
        private int faultPlace;
        private int[] text = new int[0];
        private int length;
        private int at;
        private Program into = new Program();
        private int openBraces;
        private int openBrackets;
        private final int[] firstCalls = new int[MOST_FUNCTIONS];

        void read(int[] bytes, int many, Program program) {
            text = bytes;
            length = Math.min(many, bytes.length);
            into = program;
            at = 0;
            fault = NO_FAULT;
            faultPlace = NONE;
            openBraces = 0;
            openBrackets = 0;
            Arrays.fill(firstCalls, NONE);
            into.empty();
            for (int k = 0; k < length && fault == NO_FAULT && look() != NONE; k++) {
                readFunction();
            }
            if (fault == NO_FAULT) {
                checkCalls();
            }
        }

        /** Only behind the text it is known how many FUNCTIONS there are. */
        private void checkCalls() {
            int first = NONE;
            for (int callee = into.functions; callee >= 0 && callee < MOST_FUNCTIONS; callee++) {
                int called = firstCalls[callee];
                if (called != NONE && (first == NONE || called < first)) {
                    first = called;
                }
            }
            if (first != NONE) {
                at = first;
                fail(NO_SUCH_FUNCTION);
            }
        }

        private void readFunction() {
            if (!standsWord("fun")) {
                fail(CANNOT_STAND);
                return;
            }
            if (into.functions >= MOST_FUNCTIONS) {
                fail(TOO_MANY);
                return;
            }
            at += 3;
            into.beginFunction((int) readNumber(MOST_PARAMETERS));
            readBlock();
            into.add(Program.END, 0, 0);
        }

        // ---- STATEMENTS

        private void readBlock() {
            if (fault != NO_FAULT || !opens('{', openBraces)) {
                return;
            }
            openBraces++;
            for (int k = 0; k < length && fault == NO_FAULT && look() != '}'; k++) {
                readStatement();
            }
            openBraces--;
            take('}');
        }

        private void readStatement() {
            if (standsWord("while")) {
                readWhile();
            } else if (standsWord("if")) {
                readIf();
            } else if (standsWord("return")) {
                at += 6;
                readExpression(0);
                take(';');
                into.add(Program.RETURN, 0, 0);
            } else if (variableHere() != NONE) {
                int variable = variableHere();
                at++;
                take('=');
                readExpression(0);
                take(';');
                into.add(Program.SET, variable, 0);
            } else {
                fail(CANNOT_STAND);
            }
        }

        private void readWhile() {
            int place = readPlace(WHILE, 5);
            int first = into.length;
            readExpression(0);
            int test = into.add(Program.TEST, place, 0);
            readBlock();
            into.add(Program.TURN, 0, first);
            into.aimAtNext(test);
        }

        private void readIf() {
            int place = readPlace(IF, 2);
            readExpression(0);
            int test = into.add(Program.TEST, place, 0);
            readBlock();
            if (fault != NO_FAULT || !standsWord("else")) {
                into.aimAtNext(test);
                return;
            }
            at += 4;
            int jump = into.add(Program.JUMP, 0, 0);
            into.aimAtNext(test);
            readBlock();
            into.aimAtNext(jump);
        }

        /** The PLACE that stands here, with so many bytes; NONE, at a FAULT. */
        private int readPlace(int sign, int bytes) {
            int place = into.addPlace(sign);
            if (place == NONE) {
                fail(TOO_MANY);
            }
            at += bytes;
            return place;
        }

        // ---- E

        /** An E (level 0), A (1), M (2) or U (3). */
        private void readExpression(int level) {
            if (fault != NO_FAULT) {
                return;
            }
            if (level >= UNITS) {
                readUnit();
                return;
            }
            readExpression(level + 1);
            // of an E there is one S at most
            int most = level == 0 ? 1 : length;
            for (int k = 0; k < most && fault == NO_FAULT && signHere(level) != NONE; k++) {
                int place = readPlace(signHere(level), 1);
                readExpression(level + 1);
                into.add(Program.SIGN, place, 0);
            }
        }

        private int signHere(int level) {
            switch (look()) {
                case '<':
                    return level == 0 ? LESS : NONE;
                case '=':
                    return level == 0 ? ALIKE : NONE;
                case '+':
                    return level == 1 ? PLUS : NONE;
                case '-':
                    return level == 1 ? MINUS : NONE;
                case '*':
                    return level == 2 ? TIMES : NONE;
                case '/':
                    return level == 2 ? OVER : NONE;
                case '%':
                    return level == 2 ? REST : NONE;
                default:
                    return NONE;
            }
        }

        private void readUnit() {
            int first = look();
            if (isDigit(first)) {
                long number = readNumber(MOST_NUMBER);
                into.add(Program.PUSH, number == (int) number ? WHOLE : WIDE, number);
            } else if (first == QUOTE) {
                readWord();
            } else if (first == '(') {
                readInBrackets();
            } else if (standsWord("none")) {
                at += 4;
                into.add(Program.PUSH, NOTHING, 0);
            } else if (standsWord("call")) {
                readCall();
            } else if (variableHere() != NONE) {
                into.add(Program.LOAD, variableHere(), 0);
                at++;
            } else {
                fail(CANNOT_STAND);
            }
        }

        private void readInBrackets() {
            if (!opens('(', openBrackets)) {
                return;
            }
            openBrackets++;
            readExpression(0);
            openBrackets--;
            take(')');
        }

        private void readCall() {
            at += 4;
            look();
            int called = at;
            int callee = (int) readNumber(MOST_FUNCTIONS - 1);
            if (fault != NO_FAULT || !opens('(', openBrackets)) {
                return;
            }
            if (callee >= 0 && callee < MOST_FUNCTIONS && firstCalls[callee] == NONE) {
                firstCalls[callee] = called;
            }
            into.addCallee(callee);
            openBrackets++;
            int many = look() == ')' ? 0 : readGivenOnes();
            openBrackets--;
            take(')');
            into.add(Program.CALL, callee, many);
        }

        /** One E at least, and how many there are. */
        private int readGivenOnes() {
            readExpression(0);
            int many = 1;
            while (many < GIVEN_ONES && fault == NO_FAULT && look() == ',') {
                at++;
                readExpression(0);
                many++;
            }
            if (fault == NO_FAULT && look() == ',') {
                fail(TOO_MANY);
            }
            return many;
        }

        private void readWord() {
            at++;
            long word = 0;
            for (int k = 0; k < MOST_LETTERS && isLetter(byteAt(at)); k++) {
                word = Sum.withLetter(word, byteAt(at) - 'a' + 1);
                at++;
            }
            // no blank may stand ahead of this one
            if (byteAt(at) != QUOTE) {
                fail(CANNOT_STAND);
                return;
            }
            at++;
            into.add(Program.PUSH, WORD, word);
        }

        private long readNumber(long most) {
            look();
            int first = at;
            long number = 0;
            while (at < length && isDigit(byteAt(at))) {
                // no higher than needed to tell it, however many digits there are
                number = Math.min(number * 10 + byteAt(at) - '0', MOST_NUMBER + 1);
                at++;
            }
            if (at == first) {
                fail(CANNOT_STAND);
                return 0;
            }
            if (number > most) {
                at = first;
                fail(NO_SUCH_NUMBER);
                return 0;
            }
            return number;
        }

        // ---- bytes

        /** The next byte that is no blank (at is there then); NONE behind the text. */
        private int look() {
            while (at < length && byteAt(at) == BLANK) {
                at++;
            }
            return byteAt(at);
        }

        private int byteAt(int k) {
            return k >= 0 && k < length && k < text.length ? text[k] : NONE;
        }

        private boolean standsWord(String word) {
            look();
            for (int k = 0; k < word.length(); k++) {
                if (byteAt(at + k) != word.charAt(k)) {
                    return false;
                }
            }
            return !isLetter(byteAt(at + word.length()));
        }

        /** The VARIABLE that stands here; NONE, if there is none. */
        private int variableHere() {
            int first = look();
            boolean stands = first >= 'a' && first < 'a' + VARIABLES && !isLetter(byteAt(at + 1));
            return stands ? first - 'a' : NONE;
        }

        private void take(int due) {
            if (look() == due) {
                at++;
            } else {
                fail(CANNOT_STAND);
            }
        }

        /** Takes what opens, if as many are open as may be with one more. */
        private boolean opens(int due, int open) {
            if (look() != due) {
                fail(CANNOT_STAND);
            } else if (open >= MOST_OPEN) {
                fail(TOO_MANY);
            } else {
                at++;
            }
            return fault == NO_FAULT;
        }

        private void fail(int what) {
            if (fault == NO_FAULT) {
                fault = what;
                faultPlace = at;
            }
        }

        private static boolean isLetter(int c) {
            return c >= 'a' && c <= 'z';
        }

        private static boolean isDigit(int c) {
            return c >= '0' && c <= '9';
        }
    }

    /** What there is behind some RUNS: of FUNCTIONS, of PLACES, and how many RUNS there were, at what COST. */
    private static final class Learnt {
        private static final int NO_CODE = 0;
        private static final int PAIRS = 16;

        private int glow = 10;
        private int patience = 3;
        private int runsDone;
        private long costSum;
        private int codesMade;
        private final int[] heats = new int[MOST_FUNCTIONS];
        private final int[] hotCodes = new int[MOST_FUNCTIONS];
        private final int[] madeCounts = new int[MOST_FUNCTIONS];
        private final int[] enteredCounts = new int[MOST_FUNCTIONS];
        private final int[] exitCounts = new int[MOST_FUNCTIONS];
        private final int[] leftCounts = new int[MOST_FUNCTIONS];
        private final int[] frameCounts = new int[MOST_FUNCTIONS];
        private final int[] seen = new int[MOST_PLACES];
        private final int[] opened = new int[MOST_PLACES];
        private final int[] placeExits = new int[MOST_PLACES];
        private final int[] guesses = new int[MOST_PLACES];

        /** As behind clear(): GLOW and PATIENCE stay. */
        void becomeFresh() {
            runsDone = 0;
            costSum = 0;
            codesMade = 0;
            Arrays.fill(heats, 0);
            Arrays.fill(hotCodes, NO_CODE);
            Arrays.fill(madeCounts, 0);
            Arrays.fill(enteredCounts, 0);
            Arrays.fill(exitCounts, 0);
            Arrays.fill(leftCounts, 0);
            Arrays.fill(frameCounts, 0);
            Arrays.fill(seen, 0);
            Arrays.fill(opened, 0);
            Arrays.fill(placeExits, 0);
            Arrays.fill(guesses, NEVER_GUESS);
        }

        /** As another one, but for its counts, by which no RUN goes. */
        void becomeAs(Learnt other) {
            becomeFresh();
            glow = other.glow;
            patience = other.patience;
            codesMade = other.codesMade;
            copyRow(other.heats, heats);
            copyRow(other.hotCodes, hotCodes);
            copyRow(other.seen, seen);
            copyRow(other.opened, opened);
            copyRow(other.placeExits, placeExits);
            copyRow(other.guesses, guesses);
        }

        private static void copyRow(int[] from, int[] to) {
            System.arraycopy(from, 0, to, 0, Math.min(from.length, to.length));
        }

        boolean isHot(int function) {
            return function >= 0 && function < MOST_FUNCTIONS && hotCodes[function] != NO_CODE;
        }

        int codeOf(int function) {
            return function >= 0 && function < MOST_FUNCTIONS ? hotCodes[function] : NO_CODE;
        }

        int hotFunctions() {
            int bits = 0;
            for (int function = 0; function < MOST_FUNCTIONS; function++) {
                bits |= isHot(function) ? 1 << function : 0;
            }
            return bits;
        }

        /** One HEAT more, if there is no HOT CODE: whether that is GLOW at least. */
        boolean warms(int function) {
            if (!isWithin(function, MOST_FUNCTIONS) || isHot(function)) {
                return false;
            }
            heats[function]++;
            return heats[function] >= glow;
        }

        void makeHot(int function, int firstPlace, int many) {
            if (!isWithin(function, MOST_FUNCTIONS)) {
                return;
            }
            codesMade++;
            hotCodes[function] = codesMade;
            madeCounts[function]++;
            for (int k = 0; k < many; k++) {
                int place = firstPlace + k;
                if (isWithin(place, MOST_PLACES)) {
                    guesses[place] = guessOf(place);
                }
            }
        }

        void coolDown(int function) {
            if (function >= 0 && function < MOST_FUNCTIONS) {
                hotCodes[function] = NO_CODE;
                heats[function] = 0;
            }
        }

        void forgetPlace(int place) {
            if (isWithin(place, MOST_PLACES)) {
                seen[place] = 0;
                opened[place] = 0;
                placeExits[place] = 0;
            }
        }

        void see(int place, int pair) {
            if (isWithin(place, MOST_PLACES)) {
                seen[place] |= 1 << pair;
            }
        }

        boolean guessFails(int place, int pair) {
            return isWithin(place, MOST_PLACES) && guesses[place] != OPEN_GUESS && guesses[place] != pair;
        }

        void countExit(int function, int place) {
            if (!isWithin(function, MOST_FUNCTIONS) || !isWithin(place, MOST_PLACES)) {
                return;
            }
            exitCounts[function]++;
            placeExits[place]++;
            if (placeExits[place] >= patience) {
                opened[place] = 1;
                coolDown(function);
            }
        }

        void countEntered(int function) {
            if (isWithin(function, MOST_FUNCTIONS)) {
                enteredCounts[function]++;
            }
        }

        void countLeft(int function) {
            if (isWithin(function, MOST_FUNCTIONS)) {
                leftCounts[function]++;
            }
        }

        void countFrame(int function) {
            if (isWithin(function, MOST_FUNCTIONS)) {
                frameCounts[function]++;
            }
        }

        private int guessOf(int place) {
            int bits = seen[place];
            // without its lowest bit there is nothing left of one PAIR
            if (opened[place] == 1 || (bits & (bits - 1)) != 0) {
                return OPEN_GUESS;
            }
            if (bits == 0) {
                return NEVER_GUESS;
            }
            int pair = 0;
            while (pair < PAIRS && (bits >> pair & 1) == 0) {
                pair++;
            }
            return pair;
        }

        /** As function() tells it. */
        int tellFunction(int function, int what) {
            if (!isWithin(function, MOST_FUNCTIONS)) {
                return NONE;
            }
            switch (what) {
                case 1:
                    return heats[function];
                case 2:
                    return isHot(function) ? 1 : 0;
                case 3:
                    return madeCounts[function];
                case 4:
                    return enteredCounts[function];
                case 5:
                    return exitCounts[function];
                case 6:
                    return leftCounts[function];
                default:
                    return frameCounts[function];
            }
        }

        /** As place() tells it. */
        int tellPlace(int place, int what) {
            if (!isWithin(place, MOST_PLACES)) {
                return NONE;
            }
            switch (what) {
                case 2:
                    return seen[place];
                case 3:
                    return Integer.bitCount(seen[place]);
                case 4:
                    return opened[place];
                case 5:
                    return placeExits[place];
                default:
                    return guessOf(place);
            }
        }
    }

    /** NOTES of one RUN, the first that there is room for. */
    private static final class Notes {
        static final int ROW = 5;

        private int many;
        private final int[] rows = new int[MOST_NOTES * ROW];
        private final Values variables = new Values(MOST_NOTES * VARIABLES);

        /** The NOTE's number; NONE, if there is no room for it. */
        int add(int function, int place, int steps, int frames, int pair) {
            int first = many * ROW;
            if (first < 0 || first > rows.length - ROW) {
                return NONE;
            }
            rows[first] = function;
            rows[first + 1] = place;
            rows[first + 2] = steps;
            rows[first + 3] = frames;
            rows[first + 4] = pair;
            many++;
            return many - 1;
        }

        int tell(int k, int what) {
            int at = k * ROW + what;
            return at >= 0 && at < rows.length ? rows[at] : NONE;
        }
    }

    /** What came of one RUN. */
    private static final class Run {
        private int outcome;
        private int valueKind;
        private long valueNumber;
        private int steps;
        private int hotSteps;
        private int stuckPlace;
        private int exitCount;
        private int leftCount;
        private int enteredCount;
        private int madeCount;
        private int frameCount;
        private int mostFrames;
        private int costSum;
        /** STEPS ahead of the first EXIT, or that a FRAME LEAVES; NONE, if there was neither. */
        private int calmSteps;
        private final int[] placesDone = new int[MOST_PLACES];
        private final Notes exitNotes = new Notes();

        void begin() {
            // SPENT is what a RUN is that comes to no other end
            outcome = SPENT;
            valueKind = NOTHING;
            valueNumber = 0;
            steps = 0;
            hotSteps = 0;
            stuckPlace = NONE;
            exitCount = 0;
            leftCount = 0;
            enteredCount = 0;
            madeCount = 0;
            frameCount = 0;
            mostFrames = 0;
            costSum = 0;
            calmSteps = NONE;
            Arrays.fill(placesDone, 0);
            exitNotes.many = 0;
        }

        boolean hasMoved() {
            return madeCount > 0 || enteredCount > 0 || exitCount > 0 || leftCount > 0;
        }

        void countDone(int place) {
            if (isWithin(place, MOST_PLACES)) {
                placesDone[place]++;
            }
        }

        /** As latest() tells it. */
        int tell(int what) {
            switch (what) {
                case 0:
                    return outcome;
                case 1:
                    return valueKind;
                case 2:
                    return steps;
                case 3:
                    return hotSteps;
                case 4:
                    return stuckPlace;
                case 5:
                    return exitCount;
                case 6:
                    return leftCount;
                case 7:
                    return enteredCount;
                case 8:
                    return madeCount;
                case 9:
                    return frameCount;
                default:
                    return mostFrames;
            }
        }
    }

    /** Does RUNS of the PROGRAM: FRAMES one upon the other, each WALKED or HOT, and one row of VALUES between them. */
    private static final class Machine {
        private static final int WALKED = Learnt.NO_CODE;
        private static final int WALKED_STEP_COST = 5;
        private static final int HOT_STEP_COST = 1;
        private static final int MADE_HOT_COST = 10;
        private static final int MADE_HOT_PLACE_COST = 3;
        private static final int ENTERED_COST = 4;
        private static final int EXIT_COST = 12;
        private static final int LEAVES_COST = 6;
        private static final int PAIR_OF_LEFT = 4;
        /** Of each bracket and each FRAME a few are open at most. */
        private static final int MOST_WAITING = 400;
        /** Far above what 2,000 STEPS need. */
        private static final int MOST_INSTRUCTIONS = 1_000_000;

        private final int[] frameFunctions = new int[MOST_FRAMES];
        private final int[] frameAts = new int[MOST_FRAMES];
        /** The HOT CODE that a FRAME is of, or WALKED. */
        private final int[] frameCodes = new int[MOST_FRAMES];
        private final Values variables = new Values(MOST_FRAMES * VARIABLES);
        private final Values waiting = new Values(MOST_WAITING);
        private final Sum sum = new Sum();
        private final Values givenOnes;
        private Program program;
        private Learnt learnt;
        private Run run;
        private int open;
        private int top;
        private boolean going;

        Machine(Program program, Values givenOnes, Learnt learnt, Run run) {
            this.program = program;
            this.givenOnes = givenOnes;
            this.learnt = learnt;
            this.run = run;
        }

        void load(Program other) {
            program = other;
        }

        /** A RUN by what is learnt, which learns by it. */
        void perform(int function, Learnt by, Run into) {
            learnt = by;
            run = into;
            run.begin();
            open = 0;
            top = GIVEN_ONES;
            waiting.copy(0, givenOnes, 0, GIVEN_ONES);
            going = true;
            openFrame(function, GIVEN_ONES);
            for (int k = 0; k < MOST_INSTRUCTIONS && going; k++) {
                goOn();
            }
            learnt.runsDone++;
            learnt.costSum += run.costSum;
        }

        private void goOn() {
            int frame = open - 1;
            if (!isWithin(frame, MOST_FRAMES)) {
                going = false;
                return;
            }
            int at = frameAts[frame];
            int code = program.codeAt(at);
            int left = program.leftAt(at);
            int right = (int) program.rightAt(at);
            frameAts[frame] = at + 1;
            // SPENT, as the RUN's outcome is from its beginning on: ahead of all that could come of the STEP
            if (code >= Program.FIRST_STEP && run.steps >= MOST_STEPS) {
                going = false;
                return;
            }
            switch (code) {
                case Program.PUSH:
                    push(left, program.rightAt(at));
                    break;
                case Program.LOAD:
                    push(variables.kindAt(frame * VARIABLES + left), variables.numberAt(frame * VARIABLES + left));
                    break;
                case Program.JUMP:
                    frameAts[frame] = right;
                    break;
                case Program.TURN:
                    frameAts[frame] = right;
                    turn(frame);
                    break;
                case Program.SET:
                    countStep(frame);
                    top--;
                    variables.copy(frame * VARIABLES + left, waiting, top, 1);
                    break;
                case Program.SIGN:
                    doSign(frame, left);
                    break;
                case Program.TEST:
                    doTest(frame, left, right);
                    break;
                case Program.CALL:
                    countStep(frame);
                    openFrame(left, right);
                    break;
                case Program.RETURN:
                    countStep(frame);
                    closeFrame();
                    break;
                default:
                    push(NOTHING, 0);
                    closeFrame();
                    break;
            }
        }

        private void push(int kind, long number) {
            waiting.put(top, kind, number);
            top++;
        }

        private void countStep(int frame) {
            run.steps++;
            if (isHot(frame)) {
                run.hotSteps++;
                run.costSum += HOT_STEP_COST;
            } else {
                run.costSum += WALKED_STEP_COST;
            }
        }

        private boolean isHot(int frame) {
            return isWithin(frame, MOST_FRAMES) && frameCodes[frame] != WALKED;
        }

        private int functionOf(int frame) {
            return frame >= 0 && frame < MOST_FRAMES ? frameFunctions[frame] : NONE;
        }

        private void stick(int place) {
            run.outcome = STUCK;
            run.stuckPlace = place;
            going = false;
        }

        // ---- PLACES

        private void doSign(int frame, int place) {
            top -= 2;
            int leftKind = waiting.kindAt(top);
            int rightKind = waiting.kindAt(top + 1);
            meet(frame, place, PAIR_OF_LEFT * leftKind + rightKind);
            int sign = isWithin(place, MOST_PLACES) ? program.placeSigns[place] : NONE;
            if (!sum.isDone(sign, leftKind, waiting.numberAt(top), rightKind, waiting.numberAt(top + 1))) {
                stick(place);
                return;
            }
            countStep(frame);
            run.countDone(place);
            push(sum.kindOut, sum.numberOut);
        }

        private void doTest(int frame, int place, int aim) {
            top--;
            if (!Sum.isNumber(waiting.kindAt(top))) {
                stick(place);
                return;
            }
            boolean isTrue = waiting.numberAt(top) != 0;
            meet(frame, place, isTrue ? 1 : 0);
            countStep(frame);
            run.countDone(place);
            if (!isTrue && isWithin(frame, MOST_FRAMES)) {
                frameAts[frame] = aim;
            }
        }

        /** A PAIR comes to a PLACE: a HOT FRAME goes by its GUESS, a WALKED one has SEEN it. */
        private void meet(int frame, int place, int pair) {
            if (isHot(frame) && learnt.guessFails(place, pair)) {
                makeNote(frame, place, pair);
                frameCodes[frame] = WALKED;
                run.exitCount++;
                run.costSum += EXIT_COST;
                learnt.countExit(functionOf(frame), place);
            }
            if (!isHot(frame)) {
                learnt.see(place, pair);
            }
        }

        private void makeNote(int frame, int place, int pair) {
            if (run.calmSteps == NONE) {
                run.calmSteps = run.steps;
            }
            int k = run.exitNotes.add(functionOf(frame), place, run.steps, open, pair);
            if (k != NONE) {
                run.exitNotes.variables.copy(k * VARIABLES, variables, frame * VARIABLES, VARIABLES);
            }
        }

        // ---- FRAMES

        private void openFrame(int function, int many) {
            int frame = open;
            if (!isWithin(frame, MOST_FRAMES) || !isWithin(function, MOST_FUNCTIONS)) {
                stick(NONE);
                return;
            }
            open++;
            top -= many;
            int taken = Math.min(many, program.parameters[function]);
            for (int k = 0; k < VARIABLES; k++) {
                variables.put(frame * VARIABLES + k, NOTHING, 0);
            }
            variables.copy(frame * VARIABLES, waiting, top, taken);
            frameFunctions[frame] = function;
            frameAts[frame] = program.entries[function];
            run.frameCount++;
            run.mostFrames = Math.max(run.mostFrames, open);
            learnt.countFrame(function);
            warm(function);
            frameCodes[frame] = learnt.codeOf(function);
        }

        private void warm(int function) {
            if (!isWithin(function, MOST_FUNCTIONS) || !learnt.warms(function)) {
                return;
            }
            int places = program.placeCounts[function];
            learnt.makeHot(function, program.firstPlaces[function], places);
            run.madeCount++;
            run.costSum += MADE_HOT_COST + MADE_HOT_PLACE_COST * places;
        }

        private void turn(int frame) {
            if (isHot(frame) || !isWithin(frame, MOST_FRAMES)) {
                return;
            }
            int function = functionOf(frame);
            warm(function);
            if (learnt.isHot(function)) {
                frameCodes[frame] = learnt.codeOf(function);
                run.enteredCount++;
                run.costSum += ENTERED_COST;
                learnt.countEntered(function);
            }
        }

        /** The VALUE of the FRAME waits on top, for the one that called it, or as that of the RUN. */
        private void closeFrame() {
            open--;
            if (open > 0) {
                comeBack(open - 1);
                return;
            }
            run.outcome = HAS_A_VALUE;
            run.valueKind = waiting.kindAt(top - 1);
            run.valueNumber = waiting.numberAt(top - 1);
            going = false;
        }

        private void comeBack(int frame) {
            if (!isHot(frame) || frameCodes[frame] == learnt.codeOf(functionOf(frame))) {
                return;
            }
            makeNote(frame, NONE, NONE);
            frameCodes[frame] = WALKED;
            run.leftCount++;
            run.costSum += LEAVES_COST;
            learnt.countLeft(functionOf(frame));
        }
    }
}
