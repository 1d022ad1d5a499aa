/** Promises 25 to 34, what is asked: each sentence of the document that names a boundary case. */
public final class EdgeAskedTest {
    private static final int WHOLE = 1;
    private static final int WIDE = 2;
    private static final int WORD = 3;
    private static final String ONE_MORE = "fun 1{return a+1;}";
    private static final String COUNT = "fun 1{while a{a=a-1;}}";
    private static final String DEEP = "fun 2{if a{c=call 0(a-1,b);return c;}return b+1;}";

    private EdgeAskedTest() {
    }

    public static void main(String[] args) {
        asked();
        plainOnes();
        ahead();
        pays();
        tune();
        bear();
        sorest();
        until();
        Edge.end("EdgeAskedTest");
    }

    private static HeatedCode coded(String text, int glow, int patience, int a) {
        HeatedCode code = Due.coded(text);
        code.glow(glow);
        code.patience(patience);
        code.give(0, WHOLE, a);
        return code;
    }

    // ---- what holds for all of it

    private interface Asked {
        long ask(HeatedCode code);
    }

    /** HOT, with EXITS behind it and one ahead, by which its FUNCTION would COOL. */
    private static HeatedCode deep(int a) {
        HeatedCode code = coded(DEEP, 99, 1, a);
        code.give(1, WHOLE, 1);
        code.run(0);
        code.glow(1);
        code.run(0);
        code.give(1, WIDE, 1);
        return code;
    }

    private static void asked() {
        Edge.of("Asked, nothing stays changed", () -> {
            Asked[] all = {code -> code.plain(0, 5), code -> code.plainly(0), code -> code.often(0, 0),
                code -> code.pairs(0, 0), code -> code.ahead(0, 30, 3), code -> code.pays(0),
                code -> code.tune(0, 8, 1), code -> code.bear(0, 8, 1), code -> code.sorest(0, 30, 1),
                code -> code.until(0)};
            for (int k = 0; k < all.length; k++) {
                HeatedCode code = deep(2);
                code.run(0);
                String before = Due.state(code);
                long first = all[k].ask(code);
                Due.is("asked again " + k, all[k].ask(code), first);
                Due.is("nothing stays changed " + k, Due.state(code).equals(before) ? 1 : 0, 1);
                Due.is("no refusal " + k, code.status(0) + code.status(1), 0);
            }
        });
        Edge.of("PLAIN: the RUN, as if no FUNCTION were ever made HOT", () -> {
            // HOT ones there are, and GLOW 1, change nothing
            HeatedCode code = coded(COUNT, 1, 1, 30);
            code.runs(0, 3);
            Due.is("HOT", code.told(5), 1);
            Due.is("steps", code.plain(0, 2), 91);
            Due.is("cost", code.plain(0, 5), 455);
            Due.is("how often", code.often(0, 0), 31);
            Due.is("all of its PAIRS", code.pairs(0, 0), 3);
            Due.is("all of its PAIRS", code.pairs(0, 1), 1 << 5);
            // 1,000 TURNS are far more than any GLOW
            HeatedCode long1 = coded("fun 0{while 1{a=1;}}", 99, 1, 0);
            Due.is("cost of 2,000 STEPS", long1.plain(0, 5), 10000);
        });
        Edge.of("MOVED: a RUN in which anything is MADE HOT, ENTERED, EXITS or LEAVES", () -> {
            Due.is("nothing", coded(ONE_MORE, 99, 3, 1).ahead(0, 30, 3), 0);
            // a FUNCTION without PLACES is MADE HOT, and no more
            Due.is("MADE HOT", coded("fun 0{}", 7, 3, 1).ahead(0, 30, 3), 7);
            HeatedCode code = coded(ONE_MORE, 2, 9, 1);
            code.runs(0, 2);
            Due.is("HOT, and nothing moves", code.ahead(0, 30, 3), 0);
            code.give(0, WIDE, 1);
            Due.is("EXITS", code.ahead(0, 8, 3), 8);
        });
        Edge.of("FRESH: as behind clear()", () -> {
            HeatedCode code = coded(ONE_MORE, 3, 1, 1);
            long pays = code.pays(0);
            long tune = code.tune(0, 5, 1);
            long bear = code.bear(0, 5, 1);
            code.give(0, WIDE, 1);
            code.runs(0, 7);
            code.give(0, WORD, 1);
            code.run(0);
            code.give(0, WHOLE, 1);
            Due.is("SEEN by now", code.place(0, 3), 2);
            Due.is("pays", code.pays(0), pays);
            Due.is("tune", code.tune(0, 5, 1), tune);
            Due.is("bear", code.bear(0, 5, 1), bear);
            // 10 20 35 37: against 40; GLOW 2: 10 and 15 and 2 each; PATIENCE is nothing to it
            Due.is("pays", pays, 4);
            Due.is("tune", tune, 31);
            Due.is("bear", bear, 39);
            // GLOW and PATIENCE stay: MADE HOT unseen; an EXIT each by PATIENCE, then 15, then 2 each
            int[] behind = {6, 9, 11, 14};
            for (int patience = 1; patience <= 4; patience++) {
                Due.is("by PATIENCE " + patience, coded(ONE_MORE, 1, patience, 1).pays(0), behind[patience - 1]);
            }
            // GLOW 1, PATIENCE 1: 16, an EXIT 17, - set WALKED, made HOT anew 20, 13 HOT ones; then 16
            tuned("by PATIENCE 1", coded(COUNT, 5, 1, 5), 2, 1, 76 + 16);
            // GLOW 2: while - set WALKED, 20, 12 HOT ones, an EXIT 17; then 15 and 17; by GLOW 1 there are three EXITS
            tuned("by PATIENCE 3", coded(COUNT, 5, 3, 5), 2, 2, 64 + 32);
        });
    }

    // ---- promises 25 to 28

    private static void plains(HeatedCode code, int f, int[] due, long number) {
        for (int what = 0; what < 6; what++) {
            Due.is("plain " + f + " " + what, code.plain(f, what), due[what]);
        }
        Due.is("plainly " + f, code.plainly(f), number);
    }

    private static void plainOnes() {
        Edge.of("PLAIN: 0 as run() tells it, 1 the KIND of its VALUE (0 without), 2 STEPS, 3 the PLACE at which it is STUCK"
            + " (NONE), 4 most FRAMES at one time, 5 COST", () -> {
                HeatedCode code = coded("fun 0{a=1+1;return a/0;}fun 0{while 1{}}fun 0{return call 2();}fun 0{}", 1, 1, 0);
                plains(code, 0, new int[] {1, 0, 2, 1, 1, 10}, 0);
                plains(code, 1, new int[] {2, 0, 2000, -1, 1, 10000}, 0);
                plains(code, 2, new int[] {1, 0, 8, -1, 8, 40}, 0);
                plains(code, 3, new int[] {0, 0, 0, -1, 1, 0}, 0);
                HeatedCode words = coded("fun 0{return 'zzzzzz'+'a';}fun 0{return call 0()=call 0();}", 1, 1, 0);
                plains(words, 0, new int[] {0, WORD, 2, -1, 1, 10}, 900557658);
                plains(words, 1, new int[] {0, WHOLE, 8, -1, 2, 40}, 1);
            });
        Edge.of("The NUMBER of its VALUE (0 without).", () -> {
            HeatedCode code = coded("fun 1{return 9999999999*a;}", 1, 1, 3);
            Due.is("of 64 bits", code.plainly(0), 29999999997L);
            code.give(0, 0, 0);
            Due.is("without", code.plainly(0), 0);
        });
        Edge.of("How often a PLACE of any FUNCTION is done in the PLAIN one.", () -> {
            HeatedCode code = coded("fun 1{while a{a=a-1;b=call 1(a);}}fun 1{return 6/a;}fun 0{if 1+1{}}", 1, 1, 3);
            // a is 3: 6/2, 6/1, then STUCK by 6/0
            int[][] due = {{3, 3, 2, 0, 0}, {0, 0, 1, 0, 0}, {0, 0, 0, 1, 1}};
            int[][] pairs = {{2, 32, 32, 0, 0}, {0, 0, 32, 0, 0}, {0, 0, 0, 2, 32}};
            for (int f = 0; f < 3; f++) {
                for (int place = 0; place < 5; place++) {
                    Due.is("often " + f + " " + place, code.often(f, place), due[f][place]);
                    Due.is("pairs " + f + " " + place, code.pairs(f, place), pairs[f][place]);
                }
            }
            Due.is("a thousand times", coded("fun 0{while 1{a=1;}}", 1, 1, 0).often(0, 0), 1000);
        });
        Edge.of("PAIRS (bits) that come to a PLACE in it.", () -> {
            HeatedCode code = coded("fun 2{c=a=b;if c{}return a<b;}", 1, 1, 0);
            for (int left = 0; left < 4; left++) {
                for (int right = 0; right < 4; right++) {
                    code.give(0, left, 0);
                    code.give(1, right, 0);
                    int bit = 1 << (4 * left + right);
                    Due.is("pairs of =", code.pairs(0, 0), bit);
                    Due.is("pairs of <, also if it is STUCK by it", code.pairs(0, 2), bit);
                }
            }
            HeatedCode condition = coded("fun 1{if a{}}", 1, 1, 0);
            Due.is("false", condition.pairs(0, 0), 1);
            condition.give(0, WORD, 1);
            Due.is("none", condition.pairs(0, 0), 0);
            condition.give(0, WIDE, -1);
            Due.is("true", condition.pairs(0, 0), 2);
        });
    }

    // ---- promise 29

    private static void aheads(HeatedCode code, int many, int[] due) {
        for (int what = 0; what < 5; what++) {
            Due.is("ahead " + many + " " + what, code.ahead(0, many, what), due[what]);
        }
    }

    private static void ahead() {
        Edge.of("Were so many RUNS (1 to 30) done now: 0 COST of these, 1 EXITS, 2 how often any FUNCTION was MADE HOT, 3 the"
            + " number (from 1 on) of the last that MOVED (0: none), 4 STEPS of these that were HOT", () -> {
                HeatedCode code = coded(ONE_MORE, 30, 3, 1);
                aheads(code, 1, new int[] {10, 0, 0, 0, 0});
                aheads(code, 29, new int[] {290, 0, 0, 0, 0});
                // the 30th is the last that MOVED
                aheads(code, 30, new int[] {305, 0, 1, 30, 2});
                code.runs(0, 29);
                aheads(code, 1, new int[] {15, 0, 1, 1, 2});
                aheads(code, 30, new int[] {15 + 58, 0, 1, 1, 60});
                code.run(0);
                aheads(code, 30, new int[] {60, 0, 0, 0, 60});
                code.give(0, WIDE, 1);
                // three EXITS, COOLED; 27 that are WALKED, HEAT 27
                aheads(code, 30, new int[] {66 + 270, 3, 0, 3, 0});
                aheadByWhatIsLearnt();
                // any FUNCTION, and EXITS of any: if NEVER of 0; = NEVER of 1, called twice, OPEN by its third; 1 anew
                HeatedCode two = coded("fun 0{if 1{}a=call 1();a=call 1();}fun 0{return 1=1;}", 1, 3, 0);
                aheads(two, 1, new int[] {13 + 17 + 20 + 13 + 44, 3, 2, 1, 0});
                aheads(two, 2, new int[] {107 + 17 + 20 + 22 + 13 + 2, 5, 3, 2, 2});
            });
    }

    private static void aheadByWhatIsLearnt() {
        HeatedCode exits = coded(ONE_MORE, 1, 3, 1);
        exits.runs(0, 2);
        // the third EXIT COOLS, 15, 2 each
        aheads(exits, 30, new int[] {22 + 15 + 56, 1, 1, 2, 58});
        HeatedCode open = coded(ONE_MORE, 1, 1, 1);
        open.run(0);
        open.give(0, WIDE, 1);
        // OPEN, though it has SEEN one PAIR alone, and another one comes
        aheads(open, 1, new int[] {15, 0, 1, 1, 2});
        HeatedCode guess = coded(ONE_MORE, 2, 9, 1);
        guess.runs(0, 2);
        guess.give(0, WIDE, 1);
        guess.run(0);
        // the GUESS stays, though by now it has SEEN two PAIRS
        aheads(guess, 3, new int[] {66, 3, 0, 3, 0});
        guess.give(0, WHOLE, 1);
        aheads(guess, 3, new int[] {6, 0, 0, 0, 6});
        // the HOT CODE made in it is another one than that there is now: the first FRAME LEAVES
        HeatedCode codes = coded("fun 2{if a{c=call 0(a-1,b);d=call 0(0,1);return c;}return b+1;}", 99, 1, 2);
        codes.give(1, WHOLE, 1);
        codes.run(0);
        codes.glow(1);
        codes.run(0);
        codes.give(1, WIDE, 1);
        // if - call, if - call, if; EXIT + return; LEAVES set call; MADE HOT if + return; set return; LEAVES set call;
        // if + return; set return
        int cost = 7 + 12 + 10 + 6 + 10 + 19 + 3 + 10 + 6 + 10 + 3 + 10;
        aheads(codes, 1, new int[] {cost, 1, 1, 1, 13});
        codes.run(0);
        Due.is("as it then costs", codes.cost(), cost);
    }

    // ---- promise 30

    private static void pays() {
        Edge.of("Behind how many RUNS (1 to 30) from FRESH on COST of all is less than that of as many PLAIN ones; NONE:"
            + " behind none.", () -> {
                // 30 WALKED, 20, 54 HOT, an EXIT 17: 121 against 305
                Due.is("behind the first", coded(COUNT, 3, 3, 20).pays(0), 1);
                // 28 times 10, 15, 2: 297 against 300
                Due.is("behind the 30th", coded(ONE_MORE, 29, 3, 1).pays(0), 30);
                // 29 times 10, 15: 305 against 300, and 307 against 310 would be too late
                Due.is("behind none", coded(ONE_MORE, 30, 3, 1).pays(0), -1);
                // 67, then 23 each with an EXIT: 136 against 140
                Due.is("behind the fourth", coded(COUNT, 3, 9, 2).pays(0), 4);
                Due.is("never HOT", coded(ONE_MORE, 99, 3, 1).pays(0), -1);
                // 20 and 16 + 4: as much as two PLAIN ones, not less; 44 against 60
                HeatedCode alike = coded("fun 2{c=a+1;return b+1;}", 2, 3, 1);
                alike.give(1, WHOLE, 1);
                Due.is("alike is not less", alike.pays(0), 3);
                Due.is("nothing is not less than nothing", coded("fun 0{}", 99, 3, 1).pays(0), -1);
                Due.is("more than nothing", coded("fun 0{}", 1, 3, 1).pays(0), -1);
                HeatedCode done = coded(ONE_MORE, 29, 3, 1);
                done.runs(0, 30);
                Due.is("from FRESH on, whatever was done", done.pays(0), 30);
            });
    }

    // ---- promise 31

    private static void best(String what, long glow, long dueGlow, long costs, long dueCosts) {
        Due.is("which: " + what, glow, dueGlow);
        Due.is("cost: " + what, costs, dueCosts);
    }

    private static void tuned(String what, HeatedCode code, int many, int glow, int costs) {
        best(what, code.tune(0, many, 0), glow, code.tune(0, many, 1), costs);
    }

    private static void tune() {
        Edge.of("Of GLOWS (1 to 24) from FRESH on that by which so many RUNS (1 to 8) cost least, of alike ones the least"
            + " (what 0), what these cost (1).", () -> {
                // GLOW 1: 10 and 1 each; 2: 5, 11 and 1 each; none: 5 each
                HeatedCode one = coded("fun 0{return 1;}", 5, 3, 0);
                tuned("one RUN", one, 1, 2, 5);
                tuned("two", one, 2, 3, 10);
                tuned("three, by GLOW 1", one, 3, 1, 13);
                tuned("eight, by GLOW 1", one, 8, 1, 18);
                // the called one is made HOT, for nothing, by all GLOWS up to its calls
                HeatedCode last = coded("fun 0{if 0{}" + Edge.many("a=call 1();", 23) + "}fun 0{}", 5, 3, 0);
                tuned("by GLOW 24 alone", last, 1, 24, 5 + 230);
                HeatedCode beyond = coded("fun 0{if 0{}" + Edge.many("a=call 1();", 24) + "}fun 0{}", 5, 3, 0);
                tuned("GLOW 25 is none of these", beyond, 1, 2, 5 + 240 + 10);
                tuned("of alike ones the least", coded("fun 0{}", 24, 3, 0), 1, 2, 0);
                one.runs(0, 7);
                tuned("from FRESH on", one, 8, 1, 18);
                Due.is("GLOW stays", one.told(2), 5);
            });
    }

    // ---- promise 32

    private static void borne(String what, HeatedCode code, int many, int patience, int costs) {
        best(what, code.bear(0, many, 0), patience, code.bear(0, many, 1), costs);
    }

    private static void bear() {
        Edge.of("Likewise the PATIENCE (1 to 9).", () -> {
            // MADE HOT 13 and 22; then PATIENCE 1: 15 and 2 each, others: 22 each, up to it
            borne("of alike ones the least", coded(ONE_MORE, 1, 5, 1), 1, 1, 35);
            borne("the least of all", coded(ONE_MORE, 1, 5, 1), 2, 1, 50);
            borne("eight RUNS", coded(ONE_MORE, 1, 5, 1), 8, 1, 50 + 12);
            borne("never HOT, as GLOW is so", coded(ONE_MORE, 9, 5, 1), 8, 1, 80);
            // 189 by the first call; EXITS 27 each; COOLED, and made HOT anew, 173, then 11 each
            borne("by 9 alone", long40(9), 1, 9, 90 + 189 + 8 * 27);
            borne("10 is none of these", long40(10), 1, 1, 100 + 189 + 173 + 8 * 11);
            HeatedCode done = long40(9);
            done.run(0);
            borne("from FRESH on", done, 1, 9, 90 + 189 + 8 * 27);
            Due.is("PATIENCE stays", done.told(3), 1);
        });
    }

    /**
     * Calls one of 40 PLACES, with GLOW 3 and a of 3. Its first FRAME: if, twice while - set WALKED (35), MADE HOT 130,
     * ENTERED 4, while - set HOT (3), an EXIT by the last while (17). HOT: 10 STEPS and that EXIT, 11 if it is OPEN.
     */
    private static HeatedCode long40(int calls) {
        String called = "fun 1{if 0{b=1" + Edge.many("+1", 37) + ";}while a{a=a-1;}}";
        return coded("fun 1{" + Edge.many("b=call 1(a);", calls) + "}" + called, 3, 1, 3);
    }

    // ---- promise 33

    private static void sorestOf(String what, HeatedCode code, int f, int many, int[] due) {
        Due.is("which: " + what, code.sorest(f, many, 0), due[0]);
        Due.is("how many: " + what, code.sorest(f, many, 1), due[1]);
    }

    private static void sorest() {
        Edge.of("The PLACE at which most EXITS would be in so many RUNS (1 to 30) done now (what 0; those it had ahead not"
            + " counted), of alike ones the first, how many these are (1); NONE, 0: there would be none.", () -> {
                HeatedCode code = coded("fun 2{c=a+1;d=b+1;}", 1, 9, 1);
                code.give(1, WHOLE, 1);
                // MADE HOT unseen the first + EXITS up to nine times, and all behind it is WALKED
                sorestOf("one RUN", code, 0, 1, new int[] {0, 1});
                sorestOf("30 RUNS", code, 0, 30, new int[] {0, 9});
                code.runs(0, 4);
                sorestOf("those ahead not counted", code, 0, 30, new int[] {0, 5});
                code.runs(0, 6);
                sorestOf("none", code, 0, 30, new int[] {-1, 0});
                code.give(1, WIDE, 1);
                // the first has nine EXITS ahead, the second none
                sorestOf("the second", code, 0, 2, new int[] {1, 2});
                sorestOf("never HOT", coded(ONE_MORE, 31, 3, 1), 0, 30, new int[] {-1, 0});
                sorestOf("HOT by the last of 30", coded("fun 1{if 1{}}", 30, 3, 1), 0, 30, new int[] {-1, 0});
                // the one called EXITS ahead of it, but is the second PLACE
                HeatedCode two = coded("fun 1{b=call 1(a);c=a+1;}fun 1{b=a+1;}", 1, 1, 1);
                sorestOf("of alike ones the first", two, 0, 30, new int[] {0, 1});
                sorestOf("of another FUNCTION", two, 1, 30, new int[] {1, 1});
                HeatedCode last = coded("fun 1{if 0{b=1" + Edge.many("+1", 38) + ";}return a=1;}", 1, 3, 1);
                // the if is OPEN by three EXITS; then the 40th PLACE has been SEEN; another PAIR of it EXITS three times
                last.runs(0, 4);
                last.give(0, WIDE, 1);
                sorestOf("the 40th", last, 0, 30, new int[] {39, 3});
            });
    }

    // ---- promise 34

    private static void until() {
        Edge.of("How many STEPS a RUN done now would have done ahead of its first EXIT, or that a FRAME LEAVES; all of its"
            + " STEPS, if there is neither.", () -> {
                Due.is("EXITS at once", coded(ONE_MORE, 1, 3, 1).until(0), 0);
                Due.is("all of them", coded(ONE_MORE, 2, 3, 1).until(0), 2);
                Due.is("all of none", coded("fun 0{}", 1, 3, 1).until(0), 0);
                Due.is("all of 2,000", coded("fun 0{while 1{}}", 10, 3, 1).until(0), 2000);
                Due.is("all, ahead of being STUCK", coded("fun 1{b=1;return a/0;}", 10, 3, 1).until(0), 1);
                // an EXIT by which it is STUCK is ahead of no STEP
                Due.is("an EXIT by which it is STUCK", coded("fun 1{b=1;return a/0;}", 1, 3, 1).until(0), 1);
                // six STEPS WALKED, 9 HOT ones, then the CONDITION is false
                HeatedCode count = coded(COUNT, 3, 3, 5);
                Due.is("the first EXIT", count.until(0), 15);
                count.run(0);
                count.give(0, WIDE, 5);
                Due.is("the - by another PAIR", count.until(0), 1);
                count.cool(0);
                // twice WALKED, the - has SEEN both PAIRS, and so has the while: made HOT anew, both are OPEN
                Due.is("no EXIT any more", count.until(0), 16);
                // if - call, if - call, if, then the + EXITS: ahead of both that LEAVE
                Due.is("ahead of those that LEAVE", deep(2).until(0), 7);
            });
    }
}
