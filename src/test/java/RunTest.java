/** Promises 6, 7 and 14 to 18: RUNS, what comes of them, and S by KINDS. */
public final class RunTest {
    private static final int NONE = 0;
    private static final int WHOLE = 1;
    private static final int WIDE = 2;
    private static final int WORD = 3;
    private static final String SIGNS = "+-*/%<=";
    private static final long STUCK = Long.MIN_VALUE + 5;

    private RunTest() {
    }

    public static void main(String[] args) {
        numbers();
        wideOnes();
        words();
        mixedOnes();
        conditions();
        fromTheLeft();
        literals();
        variables();
        steps();
        promise6Spent();
        promise6Stuck();
        promise7Runs();
        promise14Latest();
        promise15To17();
        promise18Given();
        Due.end("RunTest");
    }

    /** What comes of one S: its KIND and NUMBER, or STUCK at its PLACE; each PAIR is SEEN. */
    private static void sign(char sign, int leftKind, long left, int rightKind, long right, int kind, long number) {
        HeatedCode code = Due.coded("fun 2{return a" + sign + "b;}");
        String what = leftKind + "/" + left + " " + sign + " " + rightKind + "/" + right;
        code.give(0, leftKind, left);
        code.give(1, rightKind, right);
        Due.is(what + " which", code.place(0, 1), SIGNS.indexOf(sign));
        boolean sticks = number == STUCK;
        Due.is(what, code.run(0), sticks ? 1 : 0);
        Due.is(what + " KIND", code.latest(1), sticks ? 0 : kind);
        Due.is(what + " NUMBER", code.value(), sticks ? 0 : number);
        Due.is(what + " PLACE", code.latest(4), sticks ? 0 : -1);
        Due.is(what + " STEPS", code.latest(2), sticks ? 0 : 2);
        Due.is(what + " COST", code.cost(), sticks ? 0 : 10);
        Due.is(what + " SEEN", code.place(0, 2), 1 << (4 * leftKind + rightKind));
        Due.is(what + " PAIRS", code.pairs(0, 0), 1 << (4 * leftKind + rightKind));
        Due.is(what + " often", code.often(0, 0), sticks ? 0 : 1);
    }

    private static void wholes(char sign, long left, long right, int kind, long number) {
        sign(sign, WHOLE, left, WHOLE, right, kind, number);
    }

    private static void numbers() {
        wholes('+', 7, 2, WHOLE, 9);
        wholes('-', 7, 2, WHOLE, 5);
        wholes('*', 7, 2, WHOLE, 14);
        wholes('/', 7, 2, WHOLE, 3);
        wholes('%', 7, 2, WHOLE, 1);
        wholes('<', 7, 2, WHOLE, 0);
        wholes('<', 2, 7, WHOLE, 1);
        wholes('<', 2, 2, WHOLE, 0);
        wholes('=', 7, 2, WHOLE, 0);
        wholes('=', 7, 7, WHOLE, 1);
        wholes('/', -7, 2, WHOLE, -3);
        wholes('/', 7, -2, WHOLE, -3);
        wholes('%', -7, 2, WHOLE, -1);
        wholes('%', 7, -2, WHOLE, 1);
        wholes('+', 2147483647, 0, WHOLE, 2147483647);
        wholes('+', 2147483647, 1, WIDE, 2147483648L);
        wholes('-', -2147483648, 0, WHOLE, -2147483648);
        wholes('-', -2147483648, 1, WIDE, -2147483649L);
        wholes('*', 2147483647, 2147483647, WIDE, 4611686014132420609L);
        wholes('*', 65536, -32768, WHOLE, -2147483648);
        wholes('/', -2147483648, -1, WIDE, 2147483648L);
        wholes('%', -2147483648, -1, WHOLE, 0);
        wholes('/', 1, 0, WHOLE, STUCK);
        wholes('%', 0, 0, WHOLE, STUCK);
    }

    private static void wideOnes() {
        sign('+', WIDE, 5, WHOLE, 3, WIDE, 8);
        sign('-', WHOLE, 5, WIDE, 5, WIDE, 0);
        sign('*', WIDE, -5, WIDE, 3, WIDE, -15);
        sign('/', WIDE, 7, WHOLE, 2, WIDE, 3);
        sign('%', WHOLE, -7, WIDE, 2, WIDE, -1);
        sign('<', WHOLE, 3, WIDE, 5, WHOLE, 1);
        sign('<', WIDE, Long.MIN_VALUE, WHOLE, -2147483648, WHOLE, 1);
        sign('=', WIDE, 3, WHOLE, 3, WHOLE, 1);
        sign('+', WIDE, Long.MAX_VALUE, WHOLE, 1, WIDE, Long.MIN_VALUE);
        sign('-', WIDE, Long.MIN_VALUE, WHOLE, 1, WIDE, Long.MAX_VALUE);
        sign('*', WIDE, Long.MIN_VALUE, WHOLE, -1, WIDE, Long.MIN_VALUE);
        sign('/', WIDE, Long.MIN_VALUE, WHOLE, -1, WIDE, Long.MIN_VALUE);
        sign('%', WIDE, Long.MIN_VALUE, WHOLE, -1, WIDE, 0);
        sign('/', WIDE, 7, WIDE, 0, WIDE, STUCK);
        sign('%', WHOLE, 7, WIDE, 0, WIDE, STUCK);
    }

    private static void twoWords(char sign, String left, String right, int kind, long number) {
        sign(sign, WORD, Due.word(left), WORD, Due.word(right), kind, number);
    }

    private static void words() {
        twoWords('+', "abc", "de", WORD, Due.word("abcde"));
        twoWords('+', "abc", "def", WORD, Due.word("abcdef"));
        twoWords('+', "abcd", "efg", WORD, Due.word("abcdef"));
        twoWords('+', "abcdef", "zyxwvu", WORD, Due.word("abcdef"));
        twoWords('+', "", "zz", WORD, Due.word("zz"));
        twoWords('+', "zz", "", WORD, Due.word("zz"));
        twoWords('+', "", "", WORD, 0);
        twoWords('<', "a", "b", WHOLE, 1);
        twoWords('<', "b", "ab", WHOLE, 0);
        twoWords('<', "ab", "b", WHOLE, 1);
        twoWords('<', "a", "aa", WHOLE, 1);
        twoWords('<', "aa", "a", WHOLE, 0);
        twoWords('<', "aaaaaa", "b", WHOLE, 1);
        twoWords('<', "z", "zzzzzz", WHOLE, 1);
        twoWords('<', "", "a", WHOLE, 1);
        twoWords('<', "ab", "ab", WHOLE, 0);
        twoWords('=', "ab", "ab", WHOLE, 1);
        twoWords('=', "ab", "a", WHOLE, 0);
        twoWords('=', "", "", WHOLE, 1);
        twoWords('-', "ab", "a", WORD, STUCK);
        twoWords('*', "ab", "a", WORD, STUCK);
        twoWords('/', "ab", "a", WORD, STUCK);
        twoWords('%', "ab", "a", WORD, STUCK);
    }

    private static void mixedOnes() {
        int[] kinds = {NONE, WHOLE, WIDE, WORD};
        for (int left : kinds) {
            for (int right : kinds) {
                boolean numbers = (left == WHOLE || left == WIDE) && (right == WHOLE || right == WIDE);
                if (numbers || left == WORD && right == WORD) {
                    continue;
                }
                for (int k = 0; k < 6; k++) {
                    sign(SIGNS.charAt(k), left, left == NONE ? 0 : 1, right, right == NONE ? 0 : 1, NONE, STUCK);
                }
                sign('=', left, 0, right, 0, WHOLE, left == NONE && right == NONE ? 1 : 0);
            }
        }
    }

    private static void condition(String word, int kind, long number, int answer, long value) {
        HeatedCode code = Due.coded("fun 1{" + word + " a{return 1;}return 0;}");
        code.give(0, kind, number);
        Due.is(word + " of " + kind + "/" + number, code.run(0), answer);
        Due.is("which", code.place(0, 1), word.equals("if") ? 8 : 7);
        Due.is("value", code.value(), value);
        Due.is("steps", code.latest(2), answer == 1 ? 0 : 2);
        Due.is("seen", code.place(0, 2), answer == 1 ? 0 : 1 << value);
        Due.is("place", code.latest(4), answer == 1 ? 0 : -1);
    }

    private static void conditions() {
        String[] both = {"if", "while"};
        for (String word : both) {
            condition(word, WHOLE, 0, 0, 0);
            condition(word, WHOLE, 1, 0, 1);
            condition(word, WHOLE, -5, 0, 1);
            condition(word, WIDE, 0, 0, 0);
            condition(word, WIDE, 1L << 40, 0, 1);
            condition(word, NONE, 0, 1, 0);
            condition(word, WORD, 1, 1, 0);
        }
    }

    private static long valueOf(String text) {
        HeatedCode code = Due.coded(text);
        int answer = code.run(0);
        return answer == 0 ? code.value() : -1000 - code.latest(4);
    }

    private static void fromTheLeft() {
        Due.is("2+3*4", valueOf("fun 0{return 2+3*4;}"), 14);
        Due.is("10-3-2", valueOf("fun 0{return 10-3-2;}"), 5);
        Due.is("100/5/2", valueOf("fun 0{return 100/5/2;}"), 10);
        Due.is("7-2*3<2", valueOf("fun 0{return 7-2*3<2;}"), 1);
        Due.is("(1+2)*3", valueOf("fun 0{return (1+2)*3;}"), 9);
        Due.is("1=2-1", valueOf("fun 0{return 1=2-1;}"), 1);
        Due.is("10-6/2", valueOf("fun 0{return 10-6/2;}"), 7);
        Due.is("10-7%4", valueOf("fun 0{return 10-7%4;}"), 7);
        Due.is("8/4-1", valueOf("fun 0{return 8/4-1;}"), 1);
        Due.is("1<1+1", valueOf("fun 0{return 1<1+1;}"), 1);
        Due.is("17%5*2", valueOf("fun 0{return 17%5*2;}"), 4);
        Due.is("the left one first", valueOf("fun 0{return (1/0)+(1%0);}"), -1000);
        Due.is("what is within first", valueOf("fun 0{return 1+2*(3/0);}"), -1002);
        Due.is("E ahead of the call", valueOf("fun 0{return call 1(1/0)+(1/0);}fun 0{}"), -1000);
        Due.is("arguments in their order", valueOf("fun 0{return call 1(1,2,3);}fun 3{return a*100+b*10+c;}"), 123);
    }

    private static void literals() {
        HeatedCode code = Due.coded("fun 0{return 2147483647;}fun 0{return 2147483648;}"
            + "fun 0{return 'az';}fun 0{return none;}");
        long[] values = {2147483647, 2147483648L, 58, 0};
        int[] kinds = {WHOLE, WIDE, WORD, NONE};
        for (int f = 0; f < 4; f++) {
            Due.is("run", code.run(f), 0);
            Due.is("kind", code.latest(1), kinds[f]);
            Due.is("value", code.value(), values[f]);
        }
        Due.is("999999999999", valueOf("fun 0{return 999999999999;}"), 999999999999L);
        Due.is("leading zeros", valueOf("fun 0{return 000000000000000000000000000000012;}"), 12);
        Due.is("''", valueOf("fun 0{return '';}"), 0);
        Due.is("'abcdef'", valueOf("fun 0{return 'abcdef';}"), Due.word("abcdef"));
    }

    private static void variables() {
        HeatedCode code = Due.coded("fun 2{return c=none;}fun 3{return c;}fun 0{return a=none;}");
        code.give(0, WHOLE, 7);
        code.give(2, WHOLE, 9);
        code.run(0);
        Due.is("no third PARAMETER", code.value(), 1);
        code.run(1);
        Due.is("a third one", code.value(), 9);
        code.run(2);
        Due.is("none at all", code.value(), 1);
        Due.is("too many E", valueOf("fun 0{return call 1(1,2,3);}fun 1{return b=none;}"), 1);
        Due.is("too few E", valueOf("fun 0{return call 1(1);}fun 2{return b=none;}"), 1);
        Due.is("each its own", valueOf("fun 0{a=5;b=call 1();return a;}fun 0{a=9;b=a;}"), 5);
        Due.is("a FRAME anew", valueOf("fun 0{a=call 1();return call 1();}fun 0{if a=none{a=3;return 1;}return 0;}"), 1);
        Due.is("behind the last STATEMENT", valueOf("fun 0{a=4;return call 1()=none;}fun 0{a=9;}"), 1);
        Due.is("and not on into the next one", valueOf("fun 0{a=4;}fun 0{return 9;}"), 0);
        Due.is("else", valueOf("fun 0{if 0{return 1;}else{return 2;}}"), 2);
        Due.is("no else", valueOf("fun 0{if 1{a=5;}else{a=6;}return a;}"), 5);
        Due.is("a h", valueOf("fun 0{h=8;a=1;return h;}"), 8);
    }

    private static void steps() {
        HeatedCode code = Due.coded("fun 1{b=a+1;if b<3{return b;}else{}while b{b=b-1;}}");
        code.give(0, WHOLE, 4);
        // + set < if, then while and five times - set while
        Due.is("plain steps", code.plain(0, 2), 20);
        Due.is("run", code.run(0), 0);
        Due.is("steps", code.latest(2), 20);
        Due.is("kind", code.latest(1), 0);
        code.give(0, WHOLE, 1);
        // + set < if return
        Due.is("plain steps", code.plain(0, 2), 5);
        Due.is("plain cost", code.plain(0, 5), 25);
        HeatedCode nothing = Due.coded("fun 0{if 0{a=1;}}");
        nothing.run(0);
        Due.is("a CONDITION alone", nothing.latest(2), 1);
    }

    private static void spent(String behind, long a, int answer, int steps) {
        // b=0 and a CONDITION, then three STEPS a TURN: 2,000 for a 666
        HeatedCode code = Due.coded("fun 1{b=0;while a{a=a-1;}" + behind + "}");
        code.give(0, WHOLE, a);
        Due.is("run of " + a + " " + behind, code.run(0), answer);
        Due.is("steps", code.latest(2), steps);
        Due.is("plain", code.plain(0, 0), answer);
        Due.is("stuck", code.latest(4), -1);
        if (code.told(1) > 2) {
            Due.is("nothing SEEN", code.place(2, 2), 0);
            Due.is("nothing SEEN in the PLAIN one", code.pairs(0, 2), 0);
        }
    }

    private static void promise6Spent() {
        spent("", 665, 0, 1997);
        spent("", 666, 0, 2000);
        spent("", 667, 2, 2000);
        spent("", 2000000000, 2, 2000);
        spent("return 1;", 666, 2, 2000);
        spent("b=1;", 666, 2, 2000);
        spent("b=1/0;", 666, 2, 2000);
        spent("if 'a'{}", 666, 2, 2000);
        spent("b=call 0(1);", 666, 2, 2000);
        spent("return 1;", 665, 0, 1998);
    }

    private static void promise6Stuck() {
        HeatedCode code = Due.coded("fun 1{return call 0(a+1);}");
        Due.noElement("no such FUNCTION", () -> code.run(1));
        Due.noElement("no such FUNCTION", () -> code.run(-1));
        code.give(0, WHOLE, 1);
        Due.is("the 9th FRAME", code.run(0), 1);
        Due.is("at no PLACE", code.latest(4), -1);
        Due.is("steps", code.latest(2), 16);
        Due.is("frames", code.latest(9), 8);
        Due.is("at one time", code.latest(10), 8);
        Due.is("heat", code.function(0, 1), 8);
        Due.is("frames it had", code.function(0, 7), 8);
        Due.is("cost", code.cost(), 80);
        // eight FRAMES are none too many
        Due.is("eight", valueOf("fun 0{return call 1(1);}fun 1{if a<7{return call 1(a+1);}return a;}"), 7);
        Due.is("nine", valueOf("fun 0{return call 1(1);}fun 1{if a<8{return call 1(a+1);}return a;}"), -999);
    }

    private static void promise7Runs() {
        HeatedCode code = Due.coded("fun 0{return 1;}fun 0{return 1/0;}");
        Due.is("runs", code.runs(0, 30), 30);
        Due.is("told", code.told(4), 30);
        Due.is("runs", code.runs(1, 1), 0);
        Due.is("the latest", code.latest(0), 1);
        Due.is("told", code.told(4), 31);
        Due.noArgument("none", () -> code.runs(0, 0));
        Due.noArgument("too many", () -> code.runs(0, 31));
        Due.noElement("no such FUNCTION", () -> code.runs(2, 31));
        Due.is("told", code.told(4), 31);
    }

    private static void promise14Latest() {
        HeatedCode code = Due.coded("fun 0{a=call 1(3);b=call 1(4);return a+b;}fun 1{return a*2;}");
        code.run(0);
        // call, *, return, set, twice; then + and return
        long[] due = {0, 1, 10, 0, -1, 0, 0, 0, 0, 3, 2};
        for (int what = 0; what < 11; what++) {
            Due.is("latest " + what, code.latest(what), due[what]);
        }
        Due.is("value", code.value(), 14);
        Due.noArgument("latest", () -> code.latest(11));
        Due.noArgument("latest", () -> code.latest(-1));
        code.clear();
        for (int what = 0; what < 11; what++) {
            Due.is("latest " + what, code.latest(what), -1);
        }
    }

    private static void promise15To17() {
        HeatedCode code = Due.coded("fun 1{return a+1;}");
        code.give(0, WHOLE, 1);
        code.run(0);
        Due.is("value", code.value(), 2);
        Due.is("cost", code.cost(), 10);
        Due.is("costs", code.costs(), 10);
        code.runs(0, 2);
        Due.is("cost", code.cost(), 10);
        Due.is("costs", code.costs(), 30);
        code.give(0, NONE, 0);
        code.run(0);
        Due.is("no value", code.value(), 0);
        Due.is("no cost", code.cost(), 0);
        Due.is("costs", code.costs(), 30);
        code.clear();
        Due.is("value", code.value(), 0);
        Due.is("cost", code.cost(), 0);
        Due.is("costs", code.costs(), 0);
    }

    private static void promise18Given() {
        HeatedCode code = new HeatedCode();
        code.give(2, WORD, Due.word("abc"));
        Due.is("number", code.given(2, 0), Due.word("abc"));
        Due.is("kind", code.given(2, 1), WORD);
        Due.is("another one", code.given(1, 1), NONE);
        Due.noArgument("no k", () -> code.given(3, 0));
        Due.noArgument("no k", () -> code.given(-1, 0));
        Due.noArgument("no what", () -> code.given(0, 2));
        Due.noArgument("no what", () -> code.given(0, -1));
    }
}
