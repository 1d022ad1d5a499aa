/** HEAT, HOT CODE, GUESSES, EXITS, LEAVES, COST, NOTES: each sentence of the document that names a boundary case. */
public final class EdgeHotTest {
    private static final int WHOLE = 1;
    private static final int WIDE = 2;
    private static final int WORD = 3;
    private static final String ONE_MORE = "fun 1{return a+1;}";
    private static final String COUNT = "fun 1{while a{a=a-1;}}";
    /** Calls itself a times; of the last FRAME the + of b and 1. */
    private static final String DEEP = "fun 2{if a{c=call 0(a-1,b);return c;}return b+1;}";
    /** The PLACE of that +. */
    private static final int DEEP_SUM = 2;

    private EdgeHotTest() {
    }

    public static void main(String[] args) {
        atFirst();
        madeHot();
        guesses();
        exits();
        leaves();
        costs();
        notes();
        Edge.end("EdgeHotTest");
    }

    private static HeatedCode coded(String text, int glow, int patience, int a) {
        HeatedCode code = Due.coded(text);
        code.glow(glow);
        code.patience(patience);
        code.give(0, WHOLE, a);
        return code;
    }

    private static void runs(HeatedCode code, int many) {
        for (int k = 0; k < many; k++) {
            code.run(0);
        }
    }

    /** COST of a RUN, and how many of its STEPS were HOT. */
    private static void costs(String what, HeatedCode code, int cost, int hotSteps) {
        code.run(0);
        Due.is("cost: " + what, code.cost(), cost);
        Due.is("HOT STEPS: " + what, code.latest(3), hotSteps);
    }

    // ---- at first

    private static void atFirst() {
        Edge.of("A FUNCTION has a HEAT (0 at first), HOT CODE or none", () -> {
            HeatedCode code = Due.coded(ONE_MORE);
            Due.is("HEAT", code.function(0, 1), 0);
            Due.is("HOT CODE", code.function(0, 2), 0);
            Due.is("FUNCTIONS that have it", code.told(5), 0);
        });
        Edge.of("At first no PLACE has SEEN, is OPEN, has EXITS; there is no HOT CODE", () -> {
            HeatedCode code = Due.coded("fun 0{if 1{a=1+1;}}");
            for (int place = 0; place < 2; place++) {
                for (int what = 2; what <= 5; what++) {
                    Due.is("place " + place + " " + what, code.place(place, what), 0);
                }
                Due.is("no GUESS in HOT CODE", code.place(place, 6), -1);
                Due.is("GUESS, were it made", code.place(place, 7), -3);
            }
        });
        Edge.of("HEAT at which a FUNCTION is made HOT: GLOW (10 at first)", () -> {
            HeatedCode code = Due.coded("fun 0{}");
            runs(code, 9);
            Due.is("HEAT", code.function(0, 1), 9);
            Due.is("not HOT by 9", code.told(5), 0);
            code.run(0);
            Due.is("HEAT", code.function(0, 1), 10);
            Due.is("HOT by 10", code.told(5), 1);
        });
        Edge.of("EXITS by which a PLACE is OPEN: PATIENCE (3 at first)", () -> {
            HeatedCode code = Due.coded(ONE_MORE);
            code.glow(1);
            code.give(0, WHOLE, 1);
            runs(code, 2);
            Due.is("EXITS", code.place(0, 5), 2);
            Due.is("not OPEN by 2", code.place(0, 4), 0);
            code.run(0);
            Due.is("EXITS", code.place(0, 5), 3);
            Due.is("OPEN by 3", code.place(0, 4), 1);
        });
    }

    // ---- MADE HOT

    private static void madeHot() {
        Edge.of("A FUNCTION that is called has a FRAME that is HOT, if it has HOT CODE; else its HEAT is 1 more",
            EdgeHotTest::heatOfCalls);
        Edge.of("is that GLOW at least, it is MADE HOT, and the FRAME is HOT; else it is WALKED", EdgeHotTest::glowAtLeast);
        Edge.of("At a TURN of a WALKED FRAME, if its FUNCTION has HOT CODE: the FRAME is ENTERED, that is, HOT from there"
            + " on", EdgeHotTest::enteredByHotCodeThereIs);
        Edge.of("else its HEAT is 1 more; is that GLOW at least, it is MADE HOT, and the FRAME ENTERED",
            EdgeHotTest::heatOfTurns);
        Edge.of("it has HOT CODE, which is another one than any ahead", EdgeHotTest::anotherCode);
    }

    private static void heatOfCalls() {
        HeatedCode code = coded("fun 0{a=call 1();b=call 1();}fun 0{}", 3, 3, 0);
        runs(code, 2);
        Due.is("HEAT of the one that calls", code.function(0, 1), 2);
        Due.is("HEAT of the one called four times", code.function(1, 1), 3);
        Due.is("HOT by the third of four", code.told(5), 2);
        runs(code, 5);
        Due.is("HEAT of HOT ones stays", code.function(0, 1), 3);
        Due.is("HEAT of HOT ones stays", code.function(1, 1), 3);
        Due.is("MADE HOT once", code.function(1, 3), 1);
    }

    private static void glowAtLeast() {
        HeatedCode code = coded("fun 0{return 1;}", 3, 3, 0);
        costs("HEAT 1", code, 5, 0);
        costs("HEAT 2", code, 5, 0);
        costs("HEAT 3, the FRAME is HOT at once", code, 10 + 1, 1);
        costs("HOT", code, 1, 1);
        HeatedCode more = coded("fun 0{return 1;}", 9, 3, 0);
        runs(more, 8);
        more.glow(2);
        Due.is("not by GLOW alone", more.told(5), 0);
        costs("HEAT 9, more than GLOW", more, 10 + 1, 1);
        Due.is("HEAT", more.function(0, 1), 9);
        HeatedCode first = coded("fun 0{return 1;}", 1, 3, 0);
        costs("HEAT 1 of GLOW 1", first, 10 + 1, 1);
    }

    private static void enteredByHotCodeThereIs() {
        HeatedCode code = coded(COUNT, 1, 9, 2);
        code.run(0);
        // MADE HOT by the call; an EXIT by NEVER at each of three CONDITIONS; two TURNS
        Due.is("ENTERED", code.latest(7), 2);
        Due.is("MADE HOT", code.latest(8), 1);
        Due.is("EXITS", code.latest(5), 3);
        Due.is("HEAT is none the more", code.function(0, 1), 1);
        // of a HOT FRAME a TURN is nothing
        HeatedCode hot = coded(COUNT, 99, 9, 2);
        hot.run(0);
        hot.glow(1);
        costs("MADE HOT by the call, all STEPS HOT", hot, 10 + 6 + 7, 7);
        Due.is("ENTERED", hot.latest(7), 0);
        // a call and two TURNS, WALKED; a call
        Due.is("HEAT", hot.function(0, 1), 4);
    }

    private static void heatOfTurns() {
        int[] made = {0, 0, 1, 1};
        int[] heats = {1, 2, 3, 3};
        for (int a = 0; a < 4; a++) {
            HeatedCode code = coded(COUNT, 3, 9, a);
            code.run(0);
            Due.is("HEAT by " + a + " TURNS", code.function(0, 1), heats[a]);
            Due.is("MADE HOT by " + a + " TURNS", code.latest(8), made[a]);
            Due.is("ENTERED by " + a + " TURNS", code.latest(7), made[a]);
        }
        HeatedCode none = coded("fun 1{if a{a=0;}else{a=1;}}", 3, 9, 1);
        none.run(0);
        Due.is("where an if goes on is no TURN", none.function(0, 1), 1);
        // COST: while - set twice WALKED, 10 and 6, ENTERED 4, the last CONDITION an EXIT as it was true alone
        costs("ENTERED by the second TURN", coded(COUNT, 3, 9, 2), 30 + 16 + 4 + 12 + 5, 0);
        costs("ENTERED, a TURN HOT", coded(COUNT, 3, 9, 3), 30 + 16 + 4 + 3 + 12 + 5, 3);
    }

    private static void anotherCode() {
        // the second FRAME's call cools and heats anew: its HOT CODE is not the one that the first FRAME is of
        HeatedCode code = deep("fun 2{if a{c=call 0(a-1,b);d=call 0(0,1);return c;}return b+1;}", 1, 1);
        code.run(0);
        // if - call if; EXIT + return; LEAVES set call; MADE HOT if + return; set return WALKED
        Due.is("cost", code.cost(), 4 + 12 + 10 + 6 + 10 + 19 + 3 + 10);
        Due.is("LEFT once, and WALKED since", code.latest(6), 1);
        HeatedCode twice = deep("fun 2{if a{c=call 0(a-1,b);d=call 0(0,1);return c;}return b+1;}", 2, 1);
        twice.run(0);
        Due.is("the first FRAME LEAVES, too, though there is HOT CODE", twice.latest(6), 2);
        Due.is("as it has", twice.told(5), 1);
    }

    // ---- GUESSES

    private static void guesses() {
        Edge.of("PAIR at a PLACE: of an S 4 times the left KIND, and the right one; of a CONDITION 1 true, 0 false (none,"
            + " if it is no number)", EdgeHotTest::pairs);
        Edge.of("GUESS of each of its PLACES is taken: OPEN, if that is, or has SEEN more than one PAIR; the one PAIR it has"
            + " SEEN; NEVER, if it has SEEN none", EdgeHotTest::guessOfEach);
        Edge.of("At a PLACE, of a WALKED FRAME: it has SEEN the PAIR (also if the RUN is STUCK by it)", () -> {
            HeatedCode code = Due.coded("fun 1{return a/0;}");
            code.give(0, WHOLE, 1);
            Due.is("STUCK", code.run(0), 1);
            Due.is("SEEN", code.place(0, 2), 1 << 5);
            code.give(0, 0, 0);
            Due.is("STUCK", code.run(0), 1);
            Due.is("SEEN, too", code.place(0, 2), 1 << 5 | 1 << 1);
            Due.is("two PAIRS", code.place(0, 3), 2);
        });
    }

    private static void pairs() {
        for (int left = 0; left < 4; left++) {
            for (int right = 0; right < 4; right++) {
                HeatedCode code = Due.coded("fun 2{return a=b;}");
                code.give(0, left, left == 0 ? 0 : 1);
                code.give(1, right, right == 0 ? 0 : 1);
                code.run(0);
                int pair = 4 * left + right;
                Due.is("SEEN", code.place(0, 2), 1 << pair);
                Due.is("one PAIR", code.place(0, 3), 1);
                Due.is("GUESS, were it made", code.place(0, 7), pair);
                Due.is("PAIRS of the PLAIN one", code.pairs(0, 0), 1 << pair);
                code.glow(1);
                code.run(0);
                Due.is("GUESS", code.place(0, 6), pair);
                Due.is("no EXIT by it", code.latest(5), 0);
            }
        }
        HeatedCode code = Due.coded("fun 1{if a{}}");
        code.give(0, WORD, 1);
        code.run(0);
        Due.is("none of a CONDITION that is no number", code.place(0, 2), 0);
        code.give(0, WHOLE, 0);
        code.run(0);
        Due.is("false", code.place(0, 2), 1);
        code.give(0, WIDE, 5);
        code.run(0);
        Due.is("true", code.place(0, 2), 3);
    }

    private static void guessOfEach() {
        HeatedCode code = coded("fun 1{b=a+1;if a<9{}else{b=a-2;}while a=0{a=1;}}", 9, 1, 0);
        code.run(0);
        // + if < - while =
        int[] once = {5, 1, 5, -3, -2, 5};
        for (int place = 0; place < 6; place++) {
            Due.is("GUESS, were it made " + place, code.place(place, 7), once[place]);
            Due.is("there is none", code.place(place, 6), -1);
        }
        code.glow(1);
        code.run(0);
        for (int place = 0; place < 6; place++) {
            Due.is("GUESS " + place, code.place(place, 6), once[place]);
        }
        // OPEN by EXITS, though it has SEEN one PAIR alone
        HeatedCode open = coded(ONE_MORE, 1, 1, 0);
        open.run(0);
        Due.is("SEEN", open.place(0, 3), 1);
        Due.is("OPEN", open.place(0, 4), 1);
        Due.is("GUESS, were it made", open.place(0, 7), -2);
        open.run(0);
        Due.is("GUESS", open.place(0, 6), -2);
        // of its own PLACES alone: those of the FUNCTIONS ahead and behind stay as they were taken
        HeatedCode three = coded("fun 0{if 1{}}fun 0{if 1{}}fun 0{if 1{}}", 1, 9, 0);
        three.run(0);
        three.run(2);
        three.run(1);
        Due.is("all HOT", three.told(5), 7);
        for (int place = 0; place < 3; place++) {
            Due.is("NEVER, as it was taken", three.place(place, 6), -3);
            Due.is("true, were it made now", three.place(place, 7), 1);
        }
        // NEVER, of a PLACE that is made HOT unseen
        HeatedCode never = coded("fun 1{if 0{a=a+1;}}", 2, 9, 0);
        runs(never, 2);
        Due.is("NEVER", never.place(1, 6), -3);
        Due.is("false", never.place(0, 6), 0);
    }

    // ---- EXITS

    private static void exits() {
        Edge.of("Of a HOT FRAME: is the GUESS not OPEN, and there is a PAIR, and it is another one: an EXIT",
            EdgeHotTest::whereItExits);
        Edge.of("the FRAME is WALKED from there on, just as it is (the PLACE is done so: it has SEEN the PAIR)",
            EdgeHotTest::walkedFromThere);
        Edge.of("are EXITS PATIENCE at least, the PLACE is OPEN, and its FUNCTION COOLS: no HOT CODE, HEAT 0",
            EdgeHotTest::patienceAtLeast);
    }

    private static void exitsOf(String what, HeatedCode code, int kind, long number, int exits, int seen) {
        code.give(0, kind, number);
        code.run(0);
        Due.is("EXITS: " + what, code.latest(5), exits);
        Due.is("SEEN: " + what, code.place(0, 2), seen);
    }

    private static void whereItExits() {
        HeatedCode code = coded("fun 1{return a=1;}", 2, 2, 1);
        runs(code, 2);
        exitsOf("the one PAIR", code, WHOLE, 7, 0, 1 << 5);
        exitsOf("another one", code, WIDE, 1, 1, 1 << 5 | 1 << 9);
        exitsOf("the one PAIR, as GUESSES stay", code, WHOLE, 1, 0, 1 << 5 | 1 << 9);
        exitsOf("one that it has SEEN since, but that is not the GUESS", code, WIDE, 1, 1, 1 << 5 | 1 << 9);
        // that was the second of two: made HOT anew, it is OPEN
        runs(code, 2);
        Due.is("HOT", code.told(5), 1);
        exitsOf("an OPEN one, and nothing is SEEN of it", code, WORD, 1, 0, 1 << 5 | 1 << 9);
        exitsOf("NEVER", coded("fun 1{return a=1;}", 1, 2, 0), WHOLE, 1, 1, 1 << 5);
        HeatedCode condition = coded("fun 1{if a{}}", 1, 9, 1);
        exitsOf("NEVER, of a CONDITION", condition, WHOLE, 1, 1, 2);
        exitsOf("there is no PAIR", condition, WORD, 1, 0, 2);
        Due.is("STUCK there", condition.latest(4), 0);
        Due.is("at no COST", condition.cost(), 0);
        HeatedCode stuck = coded("fun 1{return a/0;}", 1, 9, 1);
        exitsOf("also if the RUN is STUCK by it", stuck, WHOLE, 1, 1, 1 << 5);
        Due.is("STUCK", stuck.latest(0), 1);
        Due.is("at the COST of an EXIT alone", stuck.cost(), 13 + 12);
    }

    private static void walkedFromThere() {
        HeatedCode code = coded("fun 1{b=7-1;c=a+1;d=7-2;return b+c+d;}", 99, 9, 1);
        code.run(0);
        code.glow(1);
        code.run(0);
        code.give(0, WIDE, 1);
        // - set HOT; an EXIT; + set - set WALKED; b + c is another PAIR now, + and return
        costs("WALKED behind an EXIT", code, 2 + 12 + 35, 2);
        Due.is("its VALUE is the same", code.value(), 13);
        Due.is("no second EXIT of a WALKED FRAME", code.latest(5), 1);
        Due.is("the EXIT's PLACE has SEEN it", code.place(1, 2), 1 << 5 | 1 << 9);
        Due.is("those behind have, too", code.place(3, 2), 1 << 5 | 1 << 6);
        Due.is("b is as it was", code.number(0, 1), 6);
        // of a FRAME called from it nothing is changed: its FUNCTION is HOT
        HeatedCode other = coded("fun 1{b=a+1;return call 1(b);}fun 1{return a=1;}", 99, 9, 1);
        other.run(0);
        other.glow(1);
        other.run(0);
        other.give(0, WIDE, 1);
        // EXIT, + set call return WALKED; the other FUNCTION's = by another PAIR EXITS, too
        costs("a FRAME of its own", other, 12 + 20 + 12 + 10, 0);
        Due.is("two FRAMES' EXITS", other.latest(5), 2);
    }

    private static void patienceAtLeast() {
        HeatedCode code = coded(ONE_MORE, 1, 4, 1);
        runs(code, 3);
        Due.is("EXITS", code.place(0, 5), 3);
        Due.is("not OPEN", code.place(0, 4), 0);
        Due.is("HOT", code.told(5), 1);
        Due.is("HEAT", code.function(0, 1), 1);
        code.run(0);
        Due.is("EXITS", code.place(0, 5), 4);
        Due.is("OPEN", code.place(0, 4), 1);
        Due.is("COOLED", code.told(5), 0);
        Due.is("HEAT", code.function(0, 1), 0);
        Due.is("it was MADE HOT once", code.function(0, 3), 1);
        // more than PATIENCE
        HeatedCode more = coded(ONE_MORE, 1, 9, 1);
        runs(more, 5);
        more.patience(2);
        Due.is("not OPEN by that alone", more.place(0, 4), 0);
        more.run(0);
        Due.is("EXITS", more.place(0, 5), 6);
        Due.is("OPEN", more.place(0, 4), 1);
        // each PLACE has its own EXITS, each FUNCTION its own HOT CODE
        HeatedCode two = coded("fun 2{c=a+1;d=b+1;}fun 0{}", 1, 3, 1);
        two.give(1, WHOLE, 1);
        two.run(1);
        runs(two, 2);
        two.give(1, WIDE, 1);
        Due.is("EXITS of the first", two.place(0, 5), 2);
        Due.is("EXITS of the second, that was WALKED behind it", two.place(1, 5), 0);
        two.run(0);
        Due.is("the first is OPEN", two.place(0, 4), 1);
        Due.is("the second is not", two.place(1, 4), 0);
        Due.is("the other FUNCTION is HOT", two.told(5), 2);
    }

    // ---- LEAVES

    /** DEEP or one like it: RUN once WALKED with WHOLES, once MADE HOT; then b is a WIDE. */
    private static HeatedCode deep(String text, int a, int patience) {
        HeatedCode code = coded(text, 99, patience, a);
        code.give(1, WHOLE, 1);
        code.run(0);
        code.glow(1);
        code.run(0);
        code.give(1, WIDE, 1);
        return code;
    }

    private static void leaves() {
        Edge.of("Where a call has come back to a HOT FRAME, and the HOT CODE that it is of is not that of its FUNCTION any"
            + " more, it LEAVES: it is WALKED from there on", () -> {
                HeatedCode gone = deep(DEEP, 2, 1);
                // if - call, if - call, if HOT; EXIT, + return; LEAVES, set return, twice
                costs("the code is gone", gone, 7 + 12 + 10 + 6 + 10 + 6 + 10, 7);
                Due.is("LEFT", gone.latest(6), 2);
                // the second FRAME LEAVES, calls, by which there is another code, and is WALKED; the first LEAVES that, too
                HeatedCode another = deep("fun 2{if a{c=call 0(a-1,b);d=call 0(0,1);return c;}return b+1;}", 2, 1);
                costs("another code", another, 7 + 12 + 10 + 6 + 10 + 19 + 3 + 10 + 6 + 10 + 3 + 10, 13);
                Due.is("LEFT", another.latest(6), 2);
                HeatedCode there = deep(DEEP, 2, 2);
                // one EXIT of two: both FRAMES stay HOT
                costs("the code is there", there, 7 + 12 + 10 + 4, 11);
                Due.is("LEFT", there.latest(6), 0);
                HeatedCode other = coded("fun 1{b=call 1(a);return b;}fun 1{return a+1;}", 99, 1, 1);
                other.run(0);
                other.glow(1);
                other.run(0);
                other.give(0, WIDE, 1);
                // call HOT; EXIT, + return; set return HOT
                costs("another FUNCTION's code is gone", other, 1 + 12 + 10 + 2, 3);
                Due.is("LEFT", other.latest(6), 0);
                Due.is("COOLED", other.told(5), 1);
                // a WALKED FRAME has none to leave: MADE HOT and COOLED while it was waiting
                HeatedCode walked = coded("fun 2{if b{c=call 0(a,0);}return a+1;}", 2, 1, 1);
                walked.give(1, WHOLE, 1);
                // if call WALKED; MADE HOT 16, if an EXIT (true alone was SEEN) and COOLED, + return; set + return
                costs("a WALKED FRAME", walked, 10 + 16 + 12 + 15 + 15, 0);
                Due.is("LEFT", walked.latest(6), 0);
            });
    }

    // ---- COST

    private static void costs() {
        Edge.of("COST: of a STEP 5 in a WALKED FRAME, 1 in a HOT one", () -> {
            HeatedCode code = coded("fun 0{a=1;if 1{return 7;}}", 2, 3, 0);
            costs("three STEPS WALKED", code, 15, 0);
            code.run(0);
            costs("three STEPS HOT", code, 3, 3);
        });
        Edge.of("(that of an EXIT: 5, as it is WALKED then; of a return, a call: by the FRAME that does it)", () -> {
            HeatedCode code = coded("fun 0{if 1{}}", 1, 9, 0);
            costs("MADE HOT, an EXIT, its STEP", code, 13 + 12 + 5, 0);
            HeatedCode one = coded("fun 0{a=call 1();return 1;}fun 0{return 2;}", 1, 3, 0);
            one.run(1);
            one.glow(99);
            costs("call WALKED, return HOT, set return WALKED", one, 5 + 1 + 10, 1);
            one.glow(1);
            one.run(0);
            one.cool(1);
            one.glow(99);
            costs("call HOT, return WALKED, set return HOT", one, 1 + 5 + 2, 3);
        });
        Edge.of("MADE HOT: 10, and 3 for each PLACE of the FUNCTION", () -> {
            costs("no PLACES", coded("fun 0{}fun 0{if 1{}}", 1, 3, 0), 10, 0);
            costs("those of the FUNCTION alone", coded("fun 0{if 0{}}fun 0{if 1{}}", 1, 3, 0), 13 + 12 + 5, 0);
            HeatedCode forty = coded("fun 0{if 0{a=1" + Edge.many("+1", 39) + ";}}", 2, 3, 0);
            forty.run(0);
            costs("40 PLACES", forty, 10 + 120 + 1, 1);
            // two FUNCTIONS in one RUN
            costs("two", coded("fun 0{a=call 1();}fun 0{}", 1, 3, 0), 10 + 1 + 10 + 1, 2);
        });
        Edge.of("ENTERED 4; an EXIT 12; LEAVES 6", () -> {
            // while WALKED; TURN; while, that SEES another PAIR
            HeatedCode code = coded("fun 1{while a{a=0;}}", 2, 3, 1);
            costs("ENTERED, EXIT", code, 10 + 13 + 4 + 12 + 5, 0);
            HeatedCode left = deep(DEEP, 1, 1);
            costs("EXIT, LEAVES", left, 4 + 12 + 10 + 6 + 10, 4);
        });
    }

    // ---- NOTES

    private static HeatedCode manyExits(int a, int b) {
        HeatedCode code = coded("fun 2{while a{a=a-1;}while b{b=b-1;}}", 1, 9, a);
        code.give(1, WHOLE, b);
        code.run(0);
        return code;
    }

    private static void notes() {
        Edge.of("A NOTE is made of each EXIT, each that LEAVES, of the latest RUN (the first 16)", () -> {
            // an EXIT by NEVER at each CONDITION but the first of the second while: a + 1 and b of them
            int[] second = {0, 1, 7, 8, 9};
            for (int b : second) {
                HeatedCode code = manyExits(7, b);
                Due.is("EXITS", code.latest(5), 8 + b);
                Due.is("NOTES", code.notes(), Math.min(16, 8 + b));
                Due.noElement("one behind the last", () -> code.note(code.notes(), 0));
                int last = code.notes() - 1;
                Due.is("the last one's PLACE", code.note(last, 1), b == 0 ? 0 : 2);
                Due.is("the last one's b", code.number(last, 1), b == 9 ? 1 : 0);
            }
            HeatedCode code = manyExits(7, 9);
            code.give(0, WHOLE, 0);
            code.give(1, WHOLE, 0);
            code.run(0);
            Due.is("of the latest RUN alone", code.notes(), code.latest(5) + code.latest(6));
            Due.is("none of a RUN without", Due.coded(COUNT).notes(), 0);
        });
        Edge.of("FUNCTION, PLACE (NONE, if it LEAVES), STEPS done by then, how many FRAMES are open, VARIABLES as they are"
            + " then", EdgeHotTest::whatANoteTells);
    }

    private static void note(HeatedCode code, int k, int[] due, long a) {
        for (int what = 0; what < 5; what++) {
            Due.is("note " + k + " " + what, code.note(k, what), due[what]);
        }
        Due.is("a", code.number(k, 0), a);
        Due.is("its kind", code.kind(k, 0), WHOLE);
        Due.is("b", code.number(k, 1), 1);
        Due.is("its kind", code.kind(k, 1), WIDE);
        for (int v = 2; v < 8; v++) {
            // c is set behind the call that it LEAVES at
            Due.is("c to h", code.number(k, v), 0);
            Due.is("their kinds", code.kind(k, v), 0);
        }
    }

    private static void whatANoteTells() {
        HeatedCode inner = coded("fun 2{return call 1(a,b);}" + DEEP.replace("call 0", "call 1"), 99, 1, 2);
        inner.give(1, WHOLE, 1);
        inner.run(0);
        inner.glow(1);
        inner.run(1);
        inner.give(1, WIDE, 1);
        inner.glow(99);
        inner.run(0);
        // a call WALKED, 7 HOT ones, + return set return set return; then its own return
        Due.is("steps", inner.latest(2), 15);
        Due.is("notes", inner.notes(), 3);
        note(inner, 0, new int[] {1, DEEP_SUM, 8, 4, 9}, 0);
        note(inner, 1, new int[] {1, -1, 10, 3, -1}, 1);
        note(inner, 2, new int[] {1, -1, 12, 2, -1}, 2);
    }
}
