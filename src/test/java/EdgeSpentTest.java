/** Behind 2,000 STEPS: what is no STEP goes on (a TURN, a call that has come back), what is one does not. */
public final class EdgeSpentTest {
    private static final int WHOLE = 1;
    private static final int WIDE = 2;
    private static final int SPENT = 2;
    /** 100 STEPS each time: a CONDITION, 99 VARIABLES that are set. */
    private static final String HUNDREDS = "fun 0{while 1{" + Edge.many("a=1;", 99) + "}}";
    /** MADE HOT with 5 PLACES; 3 STEPS of 2,000 HOT; one EXIT. */
    private static final int COST_AHEAD = 25 + 3 + 1997 * 5 + 12;

    private EdgeSpentTest() {
    }

    public static void main(String[] args) {
        Edge.of("of a while its CONDITION is tested, then, as long as it is true, STATEMENTS, then (a TURN) it is tested"
            + " again", EdgeSpentTest::turnBehindAllSteps);
        Edge.of("At a TURN of a WALKED FRAME, if its FUNCTION has HOT CODE: the FRAME is ENTERED",
            EdgeSpentTest::enteredBehindAllSteps);
        Edge.of("Where a call has come back to a HOT FRAME, and the HOT CODE that it is of is not that of its FUNCTION any"
            + " more, it LEAVES", EdgeSpentTest::leavesBehindAllSteps);
        Edge.of("Behind the last STATEMENT it has the VALUE NONE", EdgeSpentTest::leavesBehindTheLastStatement);
        Edge.end("EdgeSpentTest");
    }

    /** HEAT is 1 by the call, and 1 more at each TURN: the 20th is behind 2,000 STEPS, ahead of the CONDITION. */
    private static void turnBehindAllSteps() {
        HeatedCode code = Due.coded(HUNDREDS);
        code.glow(21);
        Due.is("SPENT", code.run(0), SPENT);
        Due.is("STEPS", code.latest(2), 2000);
        Due.is("HEAT by the 20th TURN", code.function(0, 1), 21);
        Due.is("MADE HOT", code.latest(8), 1);
        Due.is("ENTERED", code.latest(7), 1);
        Due.is("no STEP of it is HOT", code.latest(3), 0);
        Due.is("COST: STEPS, MADE HOT with one PLACE, ENTERED", code.cost(), 2000 * 5 + 13 + 4);
        HeatedCode more = Due.coded(HUNDREDS);
        more.glow(22);
        more.run(0);
        Due.is("HEAT", more.function(0, 1), 21);
        Due.is("there is no 21st TURN", more.latest(8), 0);
        Due.is("COST of STEPS alone", more.cost(), 2000 * 5);
    }

    /** MADE HOT by the 4th TURN; the if of the 20th time is true for once, an EXIT: WALKED up to the 20th TURN. */
    private static HeatedCode exitsTheLastTime(int sets) {
        // d, the sets; each time 99: a CONDITION, + and d, = and the if, 94 of a
        HeatedCode code = Due.coded("fun 0{d=0;" + Edge.many("a=1;", sets) + "while 1{d=d+1;if d=20{}"
            + Edge.many("a=1;", 94) + "}}");
        code.glow(5);
        Due.is("SPENT", code.run(0), SPENT);
        Due.is("STEPS", code.latest(2), 2000);
        Due.is("HOT ones: 15 times 99, and 4 of the 20th time", code.latest(3), 1489);
        Due.is("EXITS", code.latest(5), 1);
        Due.is("MADE HOT", code.latest(8), 1);
        Due.is("HOT CODE stays", code.told(5), 1);
        return code;
    }

    private static void enteredBehindAllSteps() {
        // 416 STEPS WALKED, MADE HOT with 4 PLACES and ENTERED, 1,489 HOT, an EXIT, 95 WALKED, ENTERED
        HeatedCode code = exitsTheLastTime(19);
        Due.is("ENTERED", code.latest(7), 2);
        Due.is("COST", code.cost(), 416 * 5 + 22 + 4 + 1489 + 12 + 95 * 5 + 4);
        // one STEP more ahead: the last a is not set, and there is no 20th TURN
        HeatedCode late = exitsTheLastTime(20);
        Due.is("ENTERED by the 4th TURN alone", late.latest(7), 1);
        Due.is("COST without the 20th TURN", late.cost(), 417 * 5 + 22 + 4 + 1489 + 12 + 94 * 5);
    }

    /** A HOT FRAME's call comes back, behind so many STEPS as the sets and the end make, with its HOT CODE gone. */
    private static HeatedCode comesBackAt(int sets, String end) {
        // a CONDITION, a call; a CONDITION, + (an EXIT, if b is no WHOLE), c, d, sets; 20 times 99; <, a CONDITION; end
        HeatedCode code = Due.coded("fun 2{if a{c=call 0(0,b);return c;}c=b+1;d=0;" + Edge.many("e=1;", sets)
            + "while d<20{" + Edge.many("e=1;", 95) + "d=d+1;}" + end + "}");
        code.patience(1);
        code.glow(99);
        code.give(0, WHOLE, 1);
        code.give(1, WHOLE, 7);
        code.run(0);
        // two calls, 20 TURNS
        Due.is("HEAT of a WALKED RUN", code.function(0, 1), 22);
        code.glow(23);
        code.give(1, WIDE, 7);
        Due.is("SPENT", code.run(0), SPENT);
        Due.is("STEPS", code.latest(2), 2000);
        Due.is("HOT ones: a CONDITION, a call, a CONDITION", code.latest(3), 3);
        Due.is("MADE HOT", code.latest(8), 1);
        Due.is("EXITS", code.latest(5), 1);
        return code;
    }

    private static void leaves(String what, HeatedCode code) {
        Due.is(what + ": LEFT", code.latest(6), 1);
        Due.is(what + ": COST", code.cost(), COST_AHEAD + 6);
        Due.is(what + ": NOTES", code.notes(), 2);
        Due.is(what + ": PLACE of the EXIT", code.note(0, 1), 1);
        Due.is(what + ": STEPS by the EXIT", code.note(0, 2), 3);
        Due.is(what + ": no PLACE", code.note(1, 1), -1);
        Due.is(what + ": STEPS by then", code.note(1, 2), 2000);
        Due.is(what + ": FRAMES by then", code.note(1, 3), 1);
        Due.is(what + ": its c is not set any more", code.kind(1, 2), 0);
    }

    private static void leavesBehindAllSteps() {
        // 6 (two of these of the outer FRAME), 11, 1,980, 2, and the return is the 2,000th
        leaves("return", comesBackAt(11, "return d;"));
        HeatedCode late = comesBackAt(12, "return d;");
        Due.is("a return that would be the 2,001st: LEFT", late.latest(6), 0);
        Due.is("a return that would be the 2,001st: COST", late.cost(), COST_AHEAD);
        Due.is("a return that would be the 2,001st: NOTES", late.notes(), 1);
    }

    private static void leavesBehindTheLastStatement() {
        leaves("end", comesBackAt(12, ""));
        Due.is("LEFT behind 2,001", comesBackAt(13, "").latest(6), 0);
    }
}
