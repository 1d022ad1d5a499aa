/** RUNS, FRAMES, STEPS and what comes of KINDS: each sentence of the document that names a boundary case. */
public final class EdgeRunTest {
    private static final int NONE = 0;
    private static final int WHOLE = 1;
    private static final int WIDE = 2;
    private static final int WORD = 3;
    private static final long LEAST_WHOLE = -2147483648L;
    private static final long MOST_WHOLE = 2147483647L;
    private static final String SIGNS = "+-*/%<=";

    private EdgeRunTest() {
    }

    public static void main(String[] args) {
        frames();
        steps();
        spent();
        stuck();
        kinds();
        Edge.end("EdgeRunTest");
    }

    // ---- FRAMES

    private static void frames() {
        Edge.of("it is called with the GIVEN ones (three VALUES, all NONE at first)", EdgeRunTest::givenOnes);
        Edge.of("VARIABLES a, b, c are what it is called with, as far as there are PARAMETERS, all others NONE",
            EdgeRunTest::asFarAsThereAreParameters);
        Edge.of("All of it is done from the left, what is within ahead of what it is in", EdgeRunTest::fromTheLeft);
        Edge.of("of a while its CONDITION is tested, then, as long as it is true, STATEMENTS, then (a TURN) it is tested"
            + " again", EdgeRunTest::whiles);
        Edge.of("Behind the last STATEMENT it has the VALUE NONE; return: that of E", EdgeRunTest::theEndOfAFrame);
        Edge.of("the VALUE of the first FRAME is that of the RUN", () -> {
            Edge.value("fun 0{a=call 1();return a+1;}fun 0{return 5;}", WHOLE, 6);
            Edge.value("fun 0{a=call 1();}fun 0{return 5;}", NONE, 0);
        });
    }

    private static void givenOnes() {
        HeatedCode code = Due.coded("fun 3{return a=none;}fun 3{return b=none;}fun 3{return c=none;}");
        for (int f = 0; f < 3; f++) {
            code.run(f);
            Due.is("none at first", code.value(), 1);
        }
        code.give(2, WHOLE, 7);
        code.run(1);
        Due.is("still none", code.value(), 1);
        code.run(2);
        Due.is("given", code.value(), 0);
    }

    private static void parameter(int parameters, char variable, long number) {
        HeatedCode code = Due.coded("fun " + parameters + "{return " + variable + ";}");
        for (int k = 0; k < 3; k++) {
            code.give(k, WHOLE, k + 7);
        }
        Due.is("run", code.run(0), 0);
        Due.is(variable + " of " + parameters, code.value(), number);
        Due.is("its kind", code.latest(1), number == 0 ? NONE : WHOLE);
    }

    private static void asFarAsThereAreParameters() {
        for (int parameters = 0; parameters <= 3; parameters++) {
            for (int k = 0; k < 8; k++) {
                parameter(parameters, (char) ('a' + k), k < parameters ? k + 7 : 0);
            }
        }
        Edge.value("fun 0{return call 1(5,6,7);}fun 2{return c;}", NONE, 0);
        Edge.value("fun 0{return call 1(5,6,7);}fun 0{return a;}", NONE, 0);
        Edge.value("fun 0{return call 1(5);}fun 3{return b;}", NONE, 0);
        Edge.value("fun 0{return call 1();}fun 3{return a;}", NONE, 0);
        Edge.value("fun 0{return call 1(5,6,7);}fun 3{return c;}", WHOLE, 7);
        // what a FRAME ahead has set is not there in the next one
        Edge.value("fun 0{b=call 1(5,6,7);return call 1();}fun 3{d=a;a=1;h=2;return d;}", NONE, 0);
        Edge.value("fun 0{b=call 1();return call 1();}fun 0{a=h;h=2;return a;}", NONE, 0);
        Edge.value("fun 0{a=1;h=2;return call 1();}fun 1{return a;}", NONE, 0);
    }

    private static void stuckAt(String text, int place) {
        HeatedCode code = Due.coded(text);
        Due.is("run of " + text, code.run(0), 1);
        Due.is("stuck at, of " + text, code.latest(4), place);
        Due.is("value of " + text, code.value(), 0);
        Due.is("kind of " + text, code.latest(1), 0);
    }

    private static void fromTheLeft() {
        stuckAt("fun 0{a=(1/0)+(2/0);}", 0);
        stuckAt("fun 0{a=1+2*(3/0);}", 2);
        stuckAt("fun 0{a=none+(1/0);}", 1);
        stuckAt("fun 0{a=call 0((1/0),2%0);}", 0);
        stuckAt("fun 0{if (1/0)<2{}}", 1);
        stuckAt("fun 0{while 'a'{}}", 0);
        stuckAt("fun 0{a=1/0;b=2/0;}", 0);
        Edge.value("fun 0{return 7-2-1;}", WHOLE, 4);
        Edge.value("fun 0{return 8/4/2;}", WHOLE, 1);
        Edge.value("fun 0{return 17%5*2;}", WHOLE, 4);
        Edge.value("fun 0{return 2+3*4<15;}", WHOLE, 1);
        Edge.value("fun 0{return 3=1+2;}", WHOLE, 1);
    }

    private static void whiles() {
        HeatedCode code = Due.coded("fun 1{while a{a=a-1;b=1;}return b;}");
        long[] steps = {2, 6, 10};
        for (int a = 0; a < 3; a++) {
            code.give(0, WHOLE, a);
            Due.is("run", code.run(0), 0);
            Due.is("as often as it is true", code.latest(2), steps[a]);
            Due.is("it is tested again", code.often(0, 0), a + 1);
            Due.is("its STATEMENTS", code.value(), a == 0 ? 0 : 1);
        }
        // three calls, and a TURN of the second, two of the third
        Due.is("no TURN, if it was not true", code.function(0, 1), 6);
        // a return within is no TURN
        HeatedCode left = Due.coded("fun 0{while 1{return 1;}}");
        left.run(0);
        Due.is("a return is no TURN", left.function(0, 1), 1);
        Due.is("and it is the end", left.latest(2), 2);
    }

    private static void theEndOfAFrame() {
        Edge.value("fun 0{}", NONE, 0);
        Edge.value("fun 0{a=5;}", NONE, 0);
        Edge.value("fun 0{if 0{return 5;}}", NONE, 0);
        Edge.value("fun 0{return none;}", NONE, 0);
        Edge.value("fun 0{return 5;return 6;}", WHOLE, 5);
        Edge.value("fun 0{while 1{if 1{return 5;}}return 6;}", WHOLE, 5);
        // not on into the FUNCTION that stands behind it
        Edge.value("fun 0{a=1;}fun 0{return 9;}", NONE, 0);
        Edge.value("fun 0{a=call 1();return a=none;}fun 0{}fun 0{return 9;}", WHOLE, 1);
    }

    // ---- STEPS

    private static void stepsOf(String text, int answer, int steps) {
        HeatedCode code = Due.coded(text);
        Due.is("run of " + text, code.run(0), answer);
        Due.is("steps of " + text, code.latest(2), steps);
        Due.is("cost of " + text, code.cost(), 5 * steps);
        Due.is("plain steps of " + text, code.plain(0, 2), steps);
        Due.is("plain cost of " + text, code.plain(0, 5), 5 * steps);
    }

    private static void steps() {
        Edge.of("STEPS are: an S done, a CONDITION tested, a VARIABLE set, a call (behind its E), a return", () -> {
            stepsOf("fun 0{}", 0, 0);
            stepsOf("fun 0{a=1;}", 0, 1);
            stepsOf("fun 0{a=1+2;}", 0, 2);
            stepsOf("fun 0{if 1{}}", 0, 1);
            stepsOf("fun 0{if 0{}else{}}", 0, 1);
            stepsOf("fun 0{while 0{}}", 0, 1);
            stepsOf("fun 0{return ((1));}", 0, 1);
            stepsOf("fun 0{a=call 1();}fun 0{}", 0, 2);
            stepsOf("fun 0{a=call 1(1+1);}fun 0{return 1;}", 0, 4);
            // the E of a call are done ahead of it, so that it is none where they are STUCK
            stepsOf("fun 0{a=call 1(1/0);}fun 0{}", 1, 0);
        });
        Edge.of("(an S, a CONDITION at which the RUN is STUCK is none)", () -> {
            stepsOf("fun 0{a=1/0;}", 1, 0);
            stepsOf("fun 0{b=1;a=1+2;a=none<1;}", 1, 3);
            stepsOf("fun 0{if none{}}", 1, 0);
            stepsOf("fun 0{while 'a'{}}", 1, 0);
            HeatedCode code = Due.coded("fun 0{a=1/0;}");
            Due.is("not done", code.often(0, 0), 0);
        });
    }

    // ---- SPENT

    /**
     * 1,997 STEPS (b is set, 665 times a CONDITION, a -, a VARIABLE set, at last a CONDITION), three VARIABLES set more,
     * if all three are to be, and what stands behind these.
     */
    private static HeatedCode behind(int steps, String last) {
        String text = "fun 1{b=0;while a{a=a-1;}" + Edge.many("b=0;", steps - 1997) + last + "}fun 0{}";
        HeatedCode code = Due.coded(text);
        code.give(0, WHOLE, 665);
        return code;
    }

    private static void answers(int steps, String last, int answer, int allSteps) {
        HeatedCode code = behind(steps, last);
        String what = steps + " STEPS and " + last;
        Due.is(what, code.run(0), answer);
        Due.is("STEPS of " + what, code.latest(2), allSteps);
        Due.is("PLACE of " + what, code.latest(4), answer == 1 ? 2 : -1);
        Due.is("plain " + what, code.plain(0, 0), answer);
        Due.is("plain STEPS of " + what, code.plain(0, 2), allSteps);
        Due.is("plain PLACE of " + what, code.plain(0, 3), answer == 1 ? 2 : -1);
    }

    private static void spent() {
        Edge.of("A RUN that comes, behind 2,000 STEPS, to an S, a CONDITION, a VARIABLE to be set, a call, or a return is"
            + " SPENT", EdgeRunTest::behind2000Steps);
        Edge.of("whatever would come of it", EdgeRunTest::whateverWouldComeOfIt);
        Edge.of("Would the STEP be SPENT, there is no EXIT, and nothing is SEEN", EdgeRunTest::nothingIsSeen);
    }

    private static void behind2000Steps() {
        answers(2000, "", 0, 2000);
        answers(2000, "b=0;", 2, 2000);
        answers(1999, "b=0;", 0, 2000);
        answers(2000, "return 1;", 2, 2000);
        answers(1999, "return 1;", 0, 2000);
        answers(2000, "if 1{}", 2, 2000);
        answers(1999, "if 1{}", 0, 2000);
        answers(2000, "while 0{}", 2, 2000);
        answers(1999, "while 0{}", 0, 2000);
        answers(2000, "b=1+1;", 2, 2000);
        answers(1999, "b=1+1;", 2, 2000);
        answers(1998, "b=1+1;", 0, 2000);
        answers(2000, "b=call 1();", 2, 2000);
        answers(1999, "b=call 1();", 2, 2000);
        answers(1998, "b=call 1();", 0, 2000);
        HeatedCode called = behind(2000, "b=call 1();");
        called.run(0);
        Due.is("behind 2,000 no FRAME comes of a call", called.latest(9), 1);
        HeatedCode inTime = behind(1999, "b=call 1();");
        inTime.run(0);
        Due.is("but of the 2,000th STEP", inTime.latest(9), 2);
        Due.is("a set that was SPENT had no VALUE", inTime.value(), 0);
        Due.is("a RUN without an end", Due.coded("fun 0{while 1{}}").run(0), 2);
    }

    private static void whateverWouldComeOfIt() {
        answers(2000, "b=1/0;", 2, 2000);
        answers(1999, "b=1/0;", 1, 1999);
        answers(2000, "b=none+1;", 2, 2000);
        answers(2000, "if none{}", 2, 2000);
        answers(1999, "if none{}", 1, 1999);
        answers(2000, "while 'a'{}", 2, 2000);
        // a 9th FRAME: seven times < if + call, twice < and if, then 3 * 656 and 1 for the while: 1,999 ahead of the call
        String deep = "fun 2{if b<7{return call 0(a,b+1);}while a{a=a-1;}#return call 0();}";
        deepOnes(deep.replace("#", ""), 1, 2000);
        deepOnes(deep.replace("#", "c=0;"), 2, 2000);
    }

    private static void deepOnes(String text, int answer, int steps) {
        HeatedCode code = Due.coded(text);
        code.give(0, WHOLE, 656);
        code.give(1, WHOLE, 0);
        Due.is("run of " + text, code.run(0), answer);
        Due.is("steps of " + text, code.latest(2), steps);
        Due.is("frames of " + text, code.latest(10), 8);
        Due.is("place of " + text, code.latest(4), -1);
    }

    private static void nothingIsSeen() {
        HeatedCode sum = behind(2000, "b=b+1;");
        sum.run(0);
        Due.is("of a WALKED FRAME", sum.place(2, 2), 0);
        Due.is("in the PLAIN one", sum.pairs(0, 2), 0);
        Due.is("nor is it done", sum.often(0, 2), 0);
        HeatedCode condition = behind(2000, "if b{}");
        condition.run(0);
        Due.is("of a CONDITION", condition.place(2, 2), 0);
        HeatedCode inTime = behind(1999, "b=b+1;");
        inTime.run(0);
        Due.is("the 2,000th STEP is seen", inTime.place(2, 2), 1 << 5);
        Due.is("and done", inTime.often(0, 2), 1);
        exitOrSpent(666, 2, 0, 2000, 2000);
        // 1,997 HOT STEPS, an EXIT, its STEP and the set WALKED
        exitOrSpent(665, 0, 1, 1999, 1997 + 12 + 5 + 5);
    }

    /** HOT, with a + that would EXIT behind 2 + 3a STEPS. */
    private static void exitOrSpent(int a, int answer, int exits, int steps, int cost) {
        HeatedCode code = Due.coded("fun 2{c=0;while a{a=a-1;}c=b+1;}");
        code.give(0, WHOLE, 1);
        code.give(1, WHOLE, 1);
        code.glow(99);
        code.run(0);
        code.glow(1);
        code.run(0);
        code.give(0, WHOLE, a);
        code.give(1, WIDE, 1);
        Due.is("until", code.until(0), exits == 1 ? 1997 : 2000);
        Due.is("run", code.run(0), answer);
        Due.is("steps", code.latest(2), steps);
        Due.is("exits", code.latest(5), exits);
        Due.is("notes", code.notes(), exits);
        Due.is("exits of the PLACE", code.place(2, 5), exits);
        Due.is("seen", code.place(2, 2), exits == 1 ? 1 << 5 | 1 << 9 : 1 << 5);
        Due.is("cost", code.cost(), cost);
    }

    // ---- the 9th FRAME

    private static void stuck() {
        Edge.of("the 9th FRAME that would be open at one time is none: the RUN is STUCK, at no PLACE (that call was a"
            + " STEP)", () -> {
                HeatedCode eight = nested(7);
                Due.is("eight FRAMES", eight.run(0), 0);
                Due.is("value", eight.value(), 7);
                Due.is("at one time", eight.latest(10), 8);
                HeatedCode nine = nested(8);
                Due.is("a ninth", nine.run(0), 1);
                // eight times < if + call
                dues(nine, new long[] {1, 0, 32, 0, -1, 0, 0, 0, 0, 8, 8});
                Due.is("value", nine.value(), 0);
                Due.is("cost", nine.cost(), 160);
                Due.is("FRAMES it had", nine.function(0, 7), 8);
                Due.is("HEAT", nine.function(0, 1), 8);
                Due.is("plain", nine.plain(0, 0), 1);
                Due.is("plain steps", nine.plain(0, 2), 32);
                Due.is("plain place", nine.plain(0, 3), -1);
                Due.is("plain frames", nine.plain(0, 4), 8);
                // ten FRAMES, but two at one time
                HeatedCode many = Due.coded("fun 0{" + Edge.many("a=call 1();", 9) + "return 3;}fun 0{}");
                Due.is("one behind the other", many.run(0), 0);
                Due.is("frames", many.latest(9), 10);
                Due.is("at one time", many.latest(10), 2);
            });
    }

    private static HeatedCode nested(int calls) {
        HeatedCode code = Due.coded("fun 1{if a<" + calls + "{return call 0(a+1);}return a;}");
        code.give(0, WHOLE, 0);
        return code;
    }

    private static void dues(HeatedCode code, long[] due) {
        for (int what = 0; what < due.length; what++) {
            Due.is("latest " + what, code.latest(what), due[what]);
        }
    }

    // ---- KINDS

    private static HeatedCode signed(char sign, int leftKind, long left, int rightKind, long right) {
        HeatedCode code = Due.coded("fun 2{c=7-1;return a" + sign + "b;}");
        code.give(0, leftKind, left);
        code.give(1, rightKind, right);
        return code;
    }

    private static void out(int leftKind, long left, char sign, int rightKind, long right, int kind, long number) {
        HeatedCode code = signed(sign, leftKind, left, rightKind, right);
        String what = leftKind + "/" + left + sign + rightKind + "/" + right;
        Due.is(what, code.run(0), 0);
        Due.is("kind of " + what, code.latest(1), kind);
        Due.is("number of " + what, code.value(), number);
        Due.is("plain kind of " + what, code.plain(0, 1), kind);
        Due.is("plain number of " + what, code.plainly(0), number);
    }

    private static void sticks(int leftKind, long left, char sign, int rightKind, long right) {
        HeatedCode code = signed(sign, leftKind, left, rightKind, right);
        String what = leftKind + "/" + left + sign + rightKind + "/" + right;
        Due.is(what, code.run(0), 1);
        Due.is("there: " + what, code.latest(4), 1);
        Due.is("steps of " + what, code.latest(2), 2);
        Due.is("the PAIR is SEEN: " + what, code.place(1, 2), 1 << (4 * leftKind + rightKind));
    }

    private static void wholes(long left, char sign, long right, int kind, long number) {
        out(WHOLE, left, sign, WHOLE, right, kind, number);
    }

    private static void words(String left, char sign, String right, int kind, long number) {
        out(WORD, Due.word(left), sign, WORD, Due.word(right), kind, number);
    }

    private static void kinds() {
        Edge.of("two WHOLES: what comes out is a WHOLE, or a WIDE, if it is not within 32 bits", EdgeRunTest::twoWholes);
        Edge.of("else a WIDE of 64 bits, that wraps", EdgeRunTest::wides);
        Edge.of("/ is cut, % has the sign of what is divided", EdgeRunTest::dividedOnes);
        Edge.of("by 0 the RUN is STUCK there", EdgeRunTest::byNought);
        Edge.of("< =: by what they are, the WHOLE 1 or 0", EdgeRunTest::compared);
        Edge.of("Two WORDS: +: their letters, one behind the other, the first 6 of these", EdgeRunTest::joined);
        Edge.of("< (as in a dictionary), =: 1 or 0; others: STUCK there", EdgeRunTest::wordsCompared);
        Edge.of("All else: =: 1, if both are NONE, 0 if not; others: STUCK there", EdgeRunTest::allElse);
        Edge.of("A CONDITION is a number, true, if it is not 0; of other KINDS: STUCK there", EdgeRunTest::conditions);
    }

    private static void twoWholes() {
        wholes(MOST_WHOLE, '+', 0, WHOLE, MOST_WHOLE);
        wholes(MOST_WHOLE, '+', 1, WIDE, 2147483648L);
        wholes(MOST_WHOLE, '+', MOST_WHOLE, WIDE, 4294967294L);
        wholes(LEAST_WHOLE, '+', -1, WIDE, -2147483649L);
        wholes(LEAST_WHOLE, '+', LEAST_WHOLE, WIDE, -4294967296L);
        wholes(LEAST_WHOLE, '+', MOST_WHOLE, WHOLE, -1);
        wholes(LEAST_WHOLE, '-', 0, WHOLE, LEAST_WHOLE);
        wholes(LEAST_WHOLE, '-', 1, WIDE, -2147483649L);
        wholes(MOST_WHOLE, '-', -1, WIDE, 2147483648L);
        wholes(0, '-', LEAST_WHOLE, WIDE, 2147483648L);
        wholes(-1, '-', LEAST_WHOLE, WHOLE, MOST_WHOLE);
        wholes(46340, '*', 46340, WHOLE, 2147395600);
        wholes(46341, '*', 46341, WIDE, 2147488281L);
        wholes(65536, '*', -32768, WHOLE, LEAST_WHOLE);
        wholes(65536, '*', 32768, WIDE, 2147483648L);
        wholes(65536, '*', 65536, WIDE, 4294967296L);
        wholes(LEAST_WHOLE, '*', LEAST_WHOLE, WIDE, 4611686018427387904L);
        wholes(LEAST_WHOLE, '/', -1, WIDE, 2147483648L);
        wholes(LEAST_WHOLE, '/', 1, WHOLE, LEAST_WHOLE);
        wholes(LEAST_WHOLE, '%', -1, WHOLE, 0);
    }

    private static void wides() {
        out(WIDE, Long.MAX_VALUE, '+', WHOLE, 1, WIDE, Long.MIN_VALUE);
        out(WHOLE, -1, '+', WIDE, Long.MIN_VALUE, WIDE, Long.MAX_VALUE);
        out(WIDE, Long.MAX_VALUE, '+', WIDE, Long.MAX_VALUE, WIDE, -2);
        out(WIDE, Long.MIN_VALUE, '-', WHOLE, 1, WIDE, Long.MAX_VALUE);
        out(WHOLE, 0, '-', WIDE, Long.MIN_VALUE, WIDE, Long.MIN_VALUE);
        out(WIDE, 4294967296L, '*', WIDE, 4294967296L, WIDE, 0);
        out(WIDE, Long.MIN_VALUE, '*', WHOLE, -1, WIDE, Long.MIN_VALUE);
        out(WIDE, Long.MIN_VALUE, '/', WHOLE, -1, WIDE, Long.MIN_VALUE);
        out(WIDE, Long.MIN_VALUE, '%', WIDE, -1, WIDE, 0);
        // one WIDE is enough, and what comes out stays one, however small
        out(WIDE, 1, '+', WHOLE, 1, WIDE, 2);
        out(WHOLE, 1, '-', WIDE, 1, WIDE, 0);
        out(WIDE, 3, '*', WIDE, 2, WIDE, 6);
        out(WHOLE, 7, '/', WIDE, 7, WIDE, 1);
        out(WIDE, 7, '%', WHOLE, 4, WIDE, 3);
    }

    private static void dividedOnes() {
        wholes(7, '/', 2, WHOLE, 3);
        wholes(-7, '/', 2, WHOLE, -3);
        wholes(7, '/', -2, WHOLE, -3);
        wholes(-7, '/', -2, WHOLE, 3);
        wholes(-1, '/', 2, WHOLE, 0);
        wholes(7, '%', 2, WHOLE, 1);
        wholes(-7, '%', 2, WHOLE, -1);
        wholes(7, '%', -2, WHOLE, 1);
        wholes(-7, '%', -2, WHOLE, -1);
        out(WIDE, -7, '/', WHOLE, 2, WIDE, -3);
        out(WIDE, -7, '%', WHOLE, 2, WIDE, -1);
        out(WHOLE, 7, '%', WIDE, -2, WIDE, 1);
    }

    private static void byNought() {
        int[] numbers = {WHOLE, WIDE};
        for (int left : numbers) {
            for (int right : numbers) {
                sticks(left, 1, '/', right, 0);
                sticks(left, 1, '%', right, 0);
                sticks(left, 0, '/', right, 0);
                sticks(left, 0, '%', right, 0);
            }
        }
        wholes(0, '/', 1, WHOLE, 0);
        wholes(0, '%', 1, WHOLE, 0);
        wholes(0, '*', 0, WHOLE, 0);
    }

    private static void compared() {
        wholes(2, '<', 2, WHOLE, 0);
        wholes(1, '<', 2, WHOLE, 1);
        wholes(2, '<', 1, WHOLE, 0);
        wholes(LEAST_WHOLE, '<', MOST_WHOLE, WHOLE, 1);
        wholes(2, '=', 2, WHOLE, 1);
        wholes(2, '=', 3, WHOLE, 0);
        // of two KINDS they are alike, if the numbers are, and no bit of 64 is left out
        out(WIDE, -1, '=', WHOLE, -1, WHOLE, 1);
        out(WHOLE, 0, '=', WIDE, 0, WHOLE, 1);
        out(WIDE, 4294967296L, '=', WHOLE, 0, WHOLE, 0);
        out(WIDE, 4294967296L, '<', WHOLE, 1, WHOLE, 0);
        out(WHOLE, 0, '<', WIDE, 4294967296L, WHOLE, 1);
        out(WIDE, Long.MIN_VALUE, '<', WIDE, Long.MAX_VALUE, WHOLE, 1);
        out(WIDE, Long.MAX_VALUE, '<', WIDE, Long.MIN_VALUE, WHOLE, 0);
    }

    private static void joined() {
        words("", '+', "", WORD, 0);
        words("", '+', "abcdef", WORD, Due.word("abcdef"));
        words("abcdef", '+', "", WORD, Due.word("abcdef"));
        words("abc", '+', "def", WORD, Due.word("abcdef"));
        words("abcd", '+', "efg", WORD, Due.word("abcdef"));
        words("abcdef", '+', "g", WORD, Due.word("abcdef"));
        words("z", '+', "zzzzzz", WORD, Due.word("zzzzzz"));
        words("zzzzzz", '+', "aaaaaa", WORD, Due.word("zzzzzz"));
        words("b", '+', "a", WORD, 65);
    }

    private static void wordsCompared() {
        words("", '<', "", WHOLE, 0);
        words("", '<', "a", WHOLE, 1);
        words("a", '<', "", WHOLE, 0);
        words("ab", '<', "abc", WHOLE, 1);
        words("abc", '<', "ab", WHOLE, 0);
        words("b", '<', "aaaaaa", WHOLE, 0);
        words("aaaaaa", '<', "b", WHOLE, 1);
        words("abcdef", '<', "abcdeg", WHOLE, 1);
        words("z", '<', "zzzzzz", WHOLE, 1);
        words("", '=', "", WHOLE, 1);
        words("a", '=', "aa", WHOLE, 0);
        words("zzzzzz", '=', "zzzzzz", WHOLE, 1);
        char[] others = {'-', '*', '/', '%'};
        for (char sign : others) {
            sticks(WORD, 2, sign, WORD, 1);
            sticks(WORD, 0, sign, WORD, 0);
        }
    }

    private static void allElse() {
        out(NONE, 0, '=', NONE, 0, WHOLE, 1);
        for (int left = 0; left < 4; left++) {
            for (int right = 0; right < 4; right++) {
                boolean leftIs = left == WHOLE || left == WIDE;
                boolean rightIs = right == WHOLE || right == WIDE;
                if (leftIs && rightIs || left == WORD && right == WORD) {
                    continue;
                }
                if (left != NONE || right != NONE) {
                    out(left, 0, '=', right, 0, WHOLE, 0);
                }
                for (int k = 0; k < 6; k++) {
                    sticks(left, 0, SIGNS.charAt(k), right, 0);
                }
            }
        }
    }

    private static void condition(String word, int kind, long number, int answer, long value) {
        HeatedCode code = Due.coded("fun 1{" + word + " a{return 1;}return 0;}");
        code.give(0, kind, number);
        String what = word + " of " + kind + "/" + number;
        Due.is(what, code.run(0), answer);
        Due.is("value of " + what, code.value(), value);
        Due.is("place of " + what, code.latest(4), answer == 1 ? 0 : -1);
        Due.is("steps of " + what, code.latest(2), answer == 1 ? 0 : 2);
        // no PAIR, if it is no number
        Due.is("seen of " + what, code.place(0, 2), answer == 1 ? 0 : value == 1 ? 2 : 1);
        Due.is("pairs of " + what, code.pairs(0, 0), answer == 1 ? 0 : value == 1 ? 2 : 1);
    }

    private static void conditions() {
        String[] words = {"if", "while"};
        for (String word : words) {
            condition(word, WHOLE, 0, 0, 0);
            condition(word, WHOLE, 1, 0, 1);
            condition(word, WHOLE, -1, 0, 1);
            condition(word, WHOLE, LEAST_WHOLE, 0, 1);
            condition(word, WIDE, 0, 0, 0);
            condition(word, WIDE, 4294967296L, 0, 1);
            condition(word, WIDE, Long.MIN_VALUE, 0, 1);
            condition(word, NONE, 0, 1, 0);
            condition(word, WORD, 0, 1, 0);
            condition(word, WORD, 1, 1, 0);
        }
    }
}
