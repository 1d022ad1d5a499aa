/** Promises 8 to 13 and 19 to 24: HEAT, HOT CODE, GUESSES, EXITS, LEAVES, NOTES; all numbers reckoned by hand. */
public final class HotTest {
    private static final String ONE_MORE = "fun 1{return a+1;}";
    private static final String COUNT = "fun 1{while a{a=a-1;}}";

    private HotTest() {
    }

    public static void main(String[] args) {
        madeHotByCalls();
        enteredByTurns();
        leaves();
        leavesForAnotherCode();
        stuckByAnExit();
        promise8Glow();
        promise9Patience();
        promise10Cool();
        promise11Forget();
        promise12Clear();
        promise13Told();
        promise19Function();
        promise20Place();
        promise21To24Notes();
        Due.end("HotTest");
    }

    private static void runCosts(HeatedCode code, int cost, int hotSteps) {
        code.run(0);
        Due.is("cost", code.cost(), cost);
        Due.is("hot steps", code.latest(3), hotSteps);
    }

    private static void madeHotByCalls() {
        HeatedCode code = Due.coded(ONE_MORE);
        code.glow(3);
        code.give(0, 1, 1);
        runCosts(code, 10, 0);
        runCosts(code, 10, 0);
        Due.is("heat", code.function(0, 1), 2);
        Due.is("no guess", code.place(0, 6), -1);
        Due.is("guess were it hot", code.place(0, 7), 5);
        // 10, and 3 for the PLACE, then two HOT STEPS
        runCosts(code, 15, 2);
        Due.is("heat", code.function(0, 1), 3);
        Due.is("hot", code.function(0, 2), 1);
        Due.is("guess", code.place(0, 6), 5);
        runCosts(code, 2, 2);
        Due.is("heat stays", code.function(0, 1), 3);
        code.give(0, 2, 1);
        // an EXIT, then + and return WALKED
        runCosts(code, 22, 0);
        Due.is("seen", code.place(0, 2), 1 << 5 | 1 << 9);
        Due.is("guess stays", code.place(0, 6), 5);
        Due.is("guess were it hot", code.place(0, 7), -2);
        Due.is("still hot", code.told(5), 1);
        runCosts(code, 22, 0);
        Due.is("exits", code.place(0, 5), 2);
        Due.is("not open", code.place(0, 4), 0);
        runCosts(code, 22, 0);
        Due.is("open", code.place(0, 4), 1);
        Due.is("cooled", code.told(5), 0);
        Due.is("heat", code.function(0, 1), 0);
        runCosts(code, 10, 0);
        runCosts(code, 10, 0);
        runCosts(code, 15, 2);
        Due.is("guess", code.place(0, 6), -2);
        code.give(0, 3, 1);
        Due.is("stuck", code.run(0), 1);
        Due.is("no exit, no step", code.cost(), 0);
        Due.is("an OPEN one sees nothing when HOT", code.place(0, 2), 1 << 5 | 1 << 9);
        Due.is("exits", code.function(0, 5), 3);
        Due.is("made hot", code.function(0, 3), 2);
        Due.is("frames", code.function(0, 7), 11);
        Due.is("costs", code.costs(), 10 + 10 + 15 + 2 + 66 + 10 + 10 + 15);
    }

    private static void enteredByTurns() {
        HeatedCode code = Due.coded(COUNT);
        code.glow(3);
        code.give(0, 1, 5);
        // two TURNS walked: 6 STEPS; then 16 and 4, three TURNS: 9 HOT STEPS, an EXIT by a CONDITION that is false
        runCosts(code, 30 + 20 + 9 + 17, 9);
        Due.is("steps", code.latest(2), 16);
        Due.is("exits", code.latest(5), 1);
        Due.is("entered", code.latest(7), 1);
        Due.is("made hot", code.latest(8), 1);
        Due.is("note's place", code.note(0, 1), 0);
        Due.is("note's steps", code.note(0, 2), 15);
        Due.is("note's pair", code.note(0, 4), 0);
        // HOT from its call on
        runCosts(code, 15 + 17, 15);
        Due.is("entered", code.latest(7), 0);
        Due.is("exits", code.place(0, 5), 2);
        Due.is("function entered", code.function(0, 4), 1);
        // a WALKED FRAME whose FUNCTION is made HOT within it is ENTERED at its next TURN
        HeatedCode other = Due.coded("fun 1{while a{b=call 0(0);a=a-1;}}");
        other.glow(2);
        other.give(0, 1, 1);
        other.run(0);
        Due.is("entered", other.latest(7), 1);
        Due.is("made hot", other.latest(8), 1);
        // while, call; 10 and 6; in it EXIT and while; set, -, set; 4; EXIT (SEEN was true alone) and while
        Due.is("cost", other.cost(), 10 + 16 + 17 + 15 + 4 + 17);
    }

    private static HeatedCode deep(String text, int a) {
        HeatedCode code = Due.coded(text);
        code.give(0, 1, a);
        code.give(1, 1, 1);
        code.glow(99);
        code.run(0);
        code.glow(1);
        code.run(0);
        code.patience(1);
        return code;
    }

    private static void leaves() {
        HeatedCode code = deep("fun 2{if a{c=call 0(a-1,b);return c;}return b+1;}", 2);
        Due.is("made hot by 10 and 9, 13 steps", code.cost(), 32);
        runCosts(code, 13, 13);
        code.give(1, 2, 1);
        // 7 HOT STEPS, the EXIT of the third FRAME with + and return, then twice LEAVES with set and return
        runCosts(code, 7 + 12 + 10 + 6 + 10 + 6 + 10, 7);
        Due.is("value", code.value(), 2);
        Due.is("kind", code.latest(1), 2);
        Due.is("exits", code.latest(5), 1);
        Due.is("left", code.latest(6), 2);
        Due.is("function's exits", code.function(0, 5), 1);
        Due.is("function left", code.function(0, 6), 2);
        Due.is("cooled", code.function(0, 2), 0);
        Due.is("heat", code.function(0, 1), 0);
        note(code, 0, new long[] {0, 2, 7, 3, 9}, 0);
        note(code, 1, new long[] {0, -1, 9, 2, -1}, 1);
        note(code, 2, new long[] {0, -1, 11, 1, -1}, 2);
        Due.is("notes", code.notes(), 3);
        Due.is("c ahead of the set", code.kind(1, 2), 0);
        Due.is("b", code.kind(2, 1), 2);
    }

    private static void note(HeatedCode code, int k, long[] due, long a) {
        for (int what = 0; what < 5; what++) {
            Due.is("note " + k + " " + what, code.note(k, what), due[what]);
        }
        Due.is("a of note " + k, code.number(k, 0), a);
        Due.is("kind of a of note " + k, code.kind(k, 0), 1);
    }

    private static void leavesForAnotherCode() {
        HeatedCode code = deep("fun 2{if a{c=call 0(a-1,b);d=call 0(0,1);return c;}return b+1;}", 2);
        code.give(1, 2, 1);
        // if - call, if - call, if; EXIT + return; LEAVES, set call; MADE HOT anew, if + return; set return;
        // the first FRAME LEAVES, as that is another HOT CODE than its own: set call, if + return, set return
        runCosts(code, 7 + 12 + 10 + 6 + 10 + 19 + 3 + 10 + 6 + 10 + 3 + 10, 13);
        Due.is("steps", code.latest(2), 23);
        Due.is("left", code.latest(6), 2);
        Due.is("made hot", code.latest(8), 1);
        Due.is("frames", code.latest(9), 5);
        Due.is("at one time", code.latest(10), 3);
        Due.is("steps as the second one leaves", code.note(2, 2), 16);
        Due.is("it is hot", code.function(0, 2), 1);
    }

    private static void stuckByAnExit() {
        HeatedCode code = Due.coded(ONE_MORE);
        code.glow(1);
        code.give(0, 1, 1);
        code.run(0);
        Due.is("10 and 3, an EXIT by NEVER, two STEPS", code.cost(), 13 + 12 + 10);
        Due.is("guess", code.place(0, 6), -3);
        code.give(0, 3, 1);
        Due.is("stuck", code.run(0), 1);
        Due.is("an EXIT, no STEP", code.cost(), 12);
        Due.is("seen", code.place(0, 2), 1 << 5 | 1 << 13);
        Due.is("exits", code.latest(5), 1);
        HeatedCode tested = Due.coded("fun 1{if a{}}");
        tested.glow(1);
        tested.give(0, 3, 1);
        Due.is("stuck", tested.run(0), 1);
        Due.is("a CONDITION without a PAIR is no EXIT", tested.cost(), 13);
        Due.is("nothing seen", tested.place(0, 2), 0);
        // would it be SPENT, there is no EXIT
        HeatedCode spent = Due.coded("fun 1{b=0;while 1{b=0;if a<b{c=a+b;}a=a-1;}}");
        spent.give(0, 1, 1000000);
        spent.run(0);
        Due.is("spent", spent.latest(0), 2);
        Due.is("no exit", spent.latest(5), 0);
    }

    private static void promise8Glow() {
        HeatedCode code = Due.coded(ONE_MORE);
        code.give(0, 1, 1);
        Due.is("the one ahead", code.glow(99), 10);
        Due.is("the one ahead", code.glow(1), 99);
        Due.is("told", code.told(2), 1);
        Due.noArgument("glow", () -> code.glow(0));
        Due.noArgument("glow", () -> code.glow(100));
        Due.is("it stays", code.told(2), 1);
        code.glow(20);
        code.runs(0, 15);
        Due.is("heat", code.function(0, 1), 15);
        code.glow(4);
        Due.is("not hot by that alone", code.told(5), 0);
        code.run(0);
        Due.is("hot by the next call", code.told(5), 1);
        Due.is("heat", code.function(0, 1), 16);
    }

    private static void promise9Patience() {
        HeatedCode code = Due.coded(ONE_MORE);
        code.give(0, 1, 1);
        Due.is("the one ahead", code.patience(9), 3);
        Due.noArgument("patience", () -> code.patience(0));
        Due.noArgument("patience", () -> code.patience(10));
        Due.is("told", code.told(3), 9);
        code.glow(1);
        code.runs(0, 5);
        Due.is("exits", code.place(0, 5), 5);
        Due.is("the one ahead", code.patience(2), 9);
        Due.is("not open by that alone", code.place(0, 4), 0);
        Due.is("hot", code.told(5), 1);
        code.run(0);
        Due.is("open by the next", code.place(0, 4), 1);
        Due.is("exits", code.place(0, 5), 6);
        Due.is("cooled", code.told(5), 0);
    }

    private static void promise10Cool() {
        HeatedCode code = Due.coded(ONE_MORE + ONE_MORE);
        code.give(0, 1, 1);
        code.glow(2);
        code.runs(0, 2);
        code.run(1);
        Due.is("hot", code.told(5), 1);
        Due.is("it had none", code.cool(1), 0);
        Due.is("heat", code.function(1, 1), 0);
        Due.is("it had", code.cool(0), 1);
        Due.is("heat", code.function(0, 1), 0);
        Due.is("hot", code.told(5), 0);
        Due.is("guess", code.place(0, 6), -1);
        Due.is("seen stays", code.place(0, 2), 32);
        Due.is("it has none now", code.cool(0), 0);
        Due.noElement("cool", () -> code.cool(2));
        Due.noElement("cool", () -> code.cool(-1));
    }

    private static void promise11Forget() {
        HeatedCode code = Due.coded("fun 1{b=a*2;return a+1;}" + ONE_MORE);
        code.give(0, 1, 1);
        code.glow(2);
        code.patience(1);
        code.runs(0, 2);
        code.runs(1, 2);
        code.give(0, 2, 1);
        code.run(0);
        Due.is("open", code.place(0, 4), 1);
        code.run(0);
        Due.is("hot", code.told(5), 2);
        Due.is("forget", code.forget(0), 1 << 5 | 1 << 9);
        Due.is("seen", code.place(0, 2), 0);
        Due.is("open", code.place(0, 4), 0);
        Due.is("exits", code.place(0, 5), 0);
        Due.is("heat", code.function(0, 1), 0);
        Due.is("the FUNCTION's EXITS stay", code.function(0, 5), 1);
        Due.is("another PLACE stays", code.place(1, 2), 1 << 5 | 1 << 9);
        Due.is("another FUNCTION stays", code.told(5), 2);
        Due.is("forget", code.forget(2), 32);
        Due.is("its FUNCTION cools", code.told(5), 0);
        Due.is("forget", code.forget(2), 0);
        Due.noElement("forget", () -> code.forget(3));
        Due.noElement("forget", () -> code.forget(-1));
    }

    private static void promise12Clear() {
        HeatedCode code = Due.coded("fun 2{if a{c=call 0(a-1,b);return c;}return b+1;}");
        Due.is("clear", code.clear(), 0);
        code.give(0, 1, 2);
        code.give(1, 1, 1);
        code.glow(2);
        code.patience(4);
        code.runs(0, 5);
        code.give(1, 2, 1);
        code.run(0);
        Due.is("notes", code.notes() > 0 ? 1 : 0, 1);
        Due.lay(code, "fun");
        Due.is("clear", code.clear(), 6);
        Due.is("clear", code.clear(), 0);
        for (int what = 1; what < 8; what++) {
            Due.is("function " + what, code.function(0, what), 0);
        }
        for (int place = 0; place < 3; place++) {
            long[] due = {0, new int[] {8, 1, 0}[place], 0, 0, 0, 0, -1, -3};
            for (int what = 0; what < 8; what++) {
                Due.is("place " + place + " " + what, code.place(place, what), due[what]);
            }
        }
        Due.is("latest", code.latest(2), -1);
        Due.is("notes", code.notes(), 0);
        Due.noElement("note", () -> code.note(0, 0));
        HeatedCode turning = Due.coded(COUNT);
        turning.give(0, 1, 20);
        turning.run(0);
        Due.is("entered", turning.function(0, 4), 1);
        turning.clear();
        Due.is("entered", turning.function(0, 4), 0);
        turning.run(0);
        Due.is("as at first", turning.latest(8), 1);
        Due.is("told", code.told(2), 2);
        Due.is("told", code.told(3), 4);
        Due.is("given", code.given(1, 1), 2);
        Due.is("tape", code.told(6), 20);
        Due.is("functions", code.told(0), 1);
    }

    private static void promise13Told() {
        HeatedCode code = Due.coded("fun 0{}fun 0{return 1;}fun 1{return a+1;}fun 0{return call 2(1);}");
        Due.lay(code, "abc");
        code.glow(2);
        code.runs(0, 2);
        code.runs(3, 2);
        long[] due = {4, 1, 2, 3, 4, 1 | 4 | 8, 20};
        for (int what = 0; what < 7; what++) {
            Due.is("told " + what, code.told(what), due[what]);
        }
        Due.noArgument("told", () -> code.told(7));
        Due.noArgument("told", () -> code.told(-1));
    }

    private static void promise19Function() {
        HeatedCode code = Due.coded("fun 3{a=call 1(1);if a{b=call 3();}}fun 1{return a+1;}fun 0{a=call 2();}fun 2{}");
        code.runs(0, 2);
        long[][] due = {
            {3, 2, 0, 0, 0, 0, 0, 2, 0, 1, 2 | 8},
            {1, 2, 0, 0, 0, 0, 0, 2, 1, 1, 0},
            {0, 0, 0, 0, 0, 0, 0, 0, -1, 0, 4},
            {2, 2, 0, 0, 0, 0, 0, 2, -1, 0, 0}};
        for (int f = 0; f < 4; f++) {
            for (int what = 0; what < 11; what++) {
                Due.is("function " + f + " " + what, code.function(f, what), due[f][what]);
            }
        }
        Due.noArgument("function", () -> code.function(0, 11));
        Due.noArgument("function", () -> code.function(0, -1));
        Due.noElement("function", () -> code.function(4, 11));
        Due.noElement("function", () -> code.function(-1, 0));
    }

    private static void promise20Place() {
        HeatedCode code = Due.coded("fun 1{a=1+1-1*1/1%1;}fun 1{if a<1{}while a=1{a=2;}}");
        int[] which = {0, 1, 2, 3, 4, 8, 5, 7, 6};
        for (int place = 0; place < 9; place++) {
            Due.is("which", code.place(place, 1), which[place]);
            Due.is("function", code.place(place, 0), place < 5 ? 0 : 1);
            Due.is("guess", code.place(place, 6), -1);
            Due.is("guess", code.place(place, 7), -3);
        }
        code.give(0, 1, 1);
        code.run(1);
        Due.is("seen of if", code.place(5, 2), 1);
        Due.is("seen of <", code.place(6, 2), 32);
        Due.is("seen of while", code.place(7, 2), 3);
        Due.is("how many", code.place(7, 3), 2);
        Due.is("guess of if", code.place(5, 7), 0);
        Due.is("guess of <", code.place(6, 7), 5);
        Due.is("guess of while", code.place(7, 7), -2);
        code.glow(1);
        code.run(1);
        Due.is("guess of if", code.place(5, 6), 0);
        Due.is("guess of <", code.place(6, 6), 5);
        Due.is("guess of while", code.place(7, 6), -2);
        Due.is("none of the other", code.place(0, 6), -1);
        Due.noArgument("place", () -> code.place(0, 8));
        Due.noArgument("place", () -> code.place(0, -1));
        Due.noElement("place", () -> code.place(9, 8));
        Due.noElement("place", () -> code.place(-1, 0));
    }

    private static void promise21To24Notes() {
        HeatedCode code = Due.coded("fun 2{while a{a=a-1;}while b{b=b-1;}}");
        code.glow(1);
        code.patience(9);
        code.give(0, 1, 7);
        code.give(1, 1, 9);
        code.run(0);
        // 8 EXITS at the first while, then, WALKED, one CONDITION of the second without, and 9 EXITS
        Due.is("exits", code.latest(5), 17);
        Due.is("entered", code.latest(7), 16);
        Due.is("cost", code.cost(), 22 + 18 * 5 + 32 * 5 + 17 * 12 + 16 * 4);
        Due.is("notes", code.notes(), 16);
        note(code, 0, new long[] {0, 0, 0, 1, 1}, 7);
        note(code, 7, new long[] {0, 0, 21, 1, 0}, 0);
        note(code, 8, new long[] {0, 2, 25, 1, 1}, 0);
        note(code, 15, new long[] {0, 2, 46, 1, 1}, 0);
        Due.is("b", code.number(15, 1), 1);
        Due.is("c", code.kind(15, 2), 0);
        Due.is("h", code.number(15, 7), 0);
        Due.noElement("note", () -> code.note(16, 0));
        Due.noElement("kind", () -> code.kind(16, 0));
        Due.noElement("number", () -> code.number(16, 0));
        Due.noElement("note, ahead of others", () -> code.note(-1, 9));
        Due.noElement("kind, ahead of others", () -> code.kind(-1, 9));
        Due.noElement("number, ahead of others", () -> code.number(-1, 9));
        Due.noArgument("note", () -> code.note(0, 5));
        Due.noArgument("note", () -> code.note(0, -1));
        Due.noArgument("kind", () -> code.kind(0, 8));
        Due.noArgument("kind", () -> code.kind(0, -1));
        Due.noArgument("number", () -> code.number(0, 8));
        Due.noArgument("number", () -> code.number(0, -1));
        code.give(0, 1, 0);
        code.give(1, 1, 0);
        code.run(0);
        Due.is("of the latest alone", code.notes(), code.latest(5));
    }
}
