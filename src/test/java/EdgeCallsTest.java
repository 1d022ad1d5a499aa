/** Promises 1 to 24 and 35: each sentence of the document that names a boundary case of a call. */
public final class EdgeCallsTest {
    private static final int WHOLE = 1;
    private static final int WIDE = 2;
    private static final int WORD = 3;
    private static final String ONE_MORE = "fun 1{return a+1;}";
    private static final String COUNT = "fun 1{while a{a=a-1;}}";

    private EdgeCallsTest() {
    }

    public static void main(String[] args) {
        anObject();
        theTape();
        aProgram();
        givenOnes();
        runs();
        whatIsSet();
        coolForgetClear();
        whatIsTold();
        whatNotesTell();
        refusals();
        Edge.end("EdgeCallsTest");
    }

    // ---- an object, promise 1

    private static void anObject() {
        Edge.of("An object is used for at most 512 calls after it has been made", () -> {
            HeatedCode code = new HeatedCode();
            code.feed(0x66756e20, 0x317b7265, 0x7475726e, 0x20612b31, 0x3b7d2020);
            code.program(18);
            code.give(0, WHOLE, 1);
            for (int k = 4; k < 512; k++) {
                code.run(0);
            }
            // 508 RUNS: nine WALKED, one that is MADE HOT, all others HOT
            Due.is("the 512th call", code.costs(), 9 * 10 + 13 + 2 + 498 * 2);
        });
        Edge.of("A PROGRAM without FUNCTIONS.", () -> {
            HeatedCode code = new HeatedCode();
            int[] told = {0, 0, 10, 3, 0, 0, 0};
            for (int what = 0; what < 7; what++) {
                Due.is("told " + what, code.told(what), told[what]);
            }
            Due.noElement("run", () -> code.run(0));
            Due.noElement("runs", () -> code.runs(0, 1));
            Due.noElement("cool", () -> code.cool(0));
            Due.noElement("forget", () -> code.forget(0));
            Due.noElement("function", () -> code.function(0, 0));
            Due.noElement("place", () -> code.place(0, 0));
            Due.noElement("note", () -> code.note(0, 0));
            Due.noElement("kind", () -> code.kind(0, 0));
            Due.noElement("number", () -> code.number(0, 0));
            Due.noElement("plain", () -> code.plain(0, 0));
            Due.noElement("plainly", () -> code.plainly(0));
            Due.noElement("often", () -> code.often(0, 0));
            Due.noElement("pairs", () -> code.pairs(0, 0));
            Due.noElement("ahead", () -> code.ahead(0, 1, 0));
            Due.noElement("pays", () -> code.pays(0));
            Due.noElement("tune", () -> code.tune(0, 1, 0));
            Due.noElement("bear", () -> code.bear(0, 1, 0));
            Due.noElement("sorest", () -> code.sorest(0, 1, 0));
            Due.noElement("until", () -> code.until(0));
            Due.is("refused", code.status(0), 19);
        });
    }

    // ---- promise 2

    private static void theTape() {
        Edge.of("Twenty bytes come on the TAPE, of each number the highest first: how many there are", () -> {
            HeatedCode code = new HeatedCode();
            // "fun 0{return 12345;}"
            Due.is("feed", code.feed(0x66756e20, 0x307b7265, 0x7475726e, 0x20313233, 0x34353b7d), 20);
            Due.is("feed", code.feed(0, 0, 0, 0, 0), 40);
            Due.is("told", code.told(6), 40);
            Due.is("program", code.program(20), 1);
            code.run(0);
            Due.is("value", code.value(), 12345);
            // bytes above 127 are bytes, too; and so are those of numbers below 0
            Due.is("feed", code.feed(0x20202020, 0x202020ff, -1, Integer.MIN_VALUE, Integer.MAX_VALUE), 20);
            Due.is("what can't stand there", code.program(20), -9);
            Due.is("at the eighth", code.fault(), 7);
            code.feed(0x20202020, 0x80202020, 0, 0, 0);
            Due.is("what can't stand there", code.program(20), -9);
            Due.is("at the fifth", code.fault(), 4);
        });
        Edge.of("NONE, doing nothing, if there would be more than 600", () -> {
            HeatedCode code = new HeatedCode();
            Due.is("600 bytes", Due.lay(code, "fun 0{return 5;" + Edge.many(" ", 584) + "}"), 600);
            Due.is("told", code.told(6), 600);
            Due.is("twenty more", code.feed(-1, -1, -1, -1, -1), -1);
            Due.is("again", code.feed(-1, -1, -1, -1, -1), -1);
            Due.is("told", code.told(6), 600);
            Due.is("no refusal", code.status(0) + code.status(1), 0);
            Due.is("the 600 are as they were", code.program(600), 1);
            code.run(0);
            Due.is("value", code.value(), 5);
            Due.is("there is room again", code.feed(0, 0, 0, 0, 0), 20);
        });
    }

    // ---- promises 3 and 4

    private static void aProgram() {
        Edge.of("The first n bytes of the TAPE (empty then) are the PROGRAM", () -> {
            HeatedCode code = new HeatedCode();
            Due.lay(code, "fun 0{}fun 1{}fun 2{}");
            Due.is("two of three", code.program(14), 2);
            Due.is("FUNCTIONS", code.told(0), 2);
            Due.is("TAPE", code.told(6), 0);
            Due.lay(code, "fun 0{}");
            Due.is("no byte of some", code.program(0), 0);
            Due.is("FUNCTIONS", code.told(0), 0);
            Due.is("TAPE", code.told(6), 0);
            Due.is("no byte of none", code.program(0), 0);
            Due.lay(code, "fun 0{");
            Due.is("a FAULT", code.program(6), -9);
            Due.is("TAPE behind it", code.told(6), 0);
            Due.noArgument("it is empty", () -> code.program(1));
            oneBehindTheOther();
        });
        Edge.of("(as behind clear(); GIVEN ones, GLOW, PATIENCE stay)", EdgeCallsTest::asBehindClear);
        Edge.of("or the FAULT less 10 (all but the TAPE stays)", EdgeCallsTest::allButTheTapeStays);
        Edge.of("n is not 0 to the TAPE's bytes (it stays)", () -> {
            int[] wrong = {-1, 21, 600, Integer.MIN_VALUE, Integer.MAX_VALUE};
            for (int n : wrong) {
                HeatedCode code = used();
                Due.lay(code, "fun 0{}");
                Edge.refused("program " + n, code, () -> code.program(n), Due.NO_ARGUMENT);
                Due.is("TAPE", code.told(6), 20);
                Due.is("its bytes stay, too", code.program(7), 1);
            }
            HeatedCode all = new HeatedCode();
            all.feed(0x20202020, 0x20202020, 0x20202020, 0x20202020, 0x20202020);
            Due.is("all of its bytes", all.program(20), 0);
        });
        Edge.of("The place of the FAULT of the latest text; NONE without", () -> {
            HeatedCode code = new HeatedCode();
            Due.is("no text", code.fault(), -1);
            Due.program(code, "x");
            Due.is("the first byte", code.fault(), 0);
            Due.program(code, "fun 0{");
            Due.is("the length", code.fault(), 6);
            Due.noArgument("no text", () -> code.program(601));
            Due.is("still that", code.fault(), 6);
            Due.program(code, "fun 0{}");
            Due.is("without", code.fault(), -1);
            Due.program(code, "fun 0{" + Edge.many(" ", 594));
            Due.is("the length of 600", code.fault(), 600);
            code.program(0);
            Due.is("without", code.fault(), -1);
            nothingButATextChangesTheFault();
        });
    }

    /** None of these is a text: fault() stays, and the TAPE with it. */
    private static void nothingButATextChangesTheFault() {
        HeatedCode code = Due.coded("fun 1{a=a+1;}");
        Due.program(code, "fun 0{a=;}");
        code.feed(1, 2, 3, 4, 5);
        code.give(0, 1, 1);
        code.runs(0, 2);
        code.glow(1);
        code.patience(1);
        code.cool(0);
        code.forget(0);
        code.pays(0);
        Due.is("what is no text leaves it", code.fault(), 8);
        Due.is("RUNS", code.clear(), 2);
        Due.is("clear() leaves it", code.fault(), 8);
        Due.is("and the TAPE", code.told(6), 20);
    }

    /** Two FUNCTIONS, three PLACES, with RUNS, two NOTES, HOT CODE, an OPEN PLACE, and GIVEN ones. */
    private static HeatedCode used() {
        HeatedCode code = Due.coded("fun 2{while a{a=a-1;}return b+1;}fun 0{return call 0(1,1);}");
        code.give(0, WHOLE, 2);
        code.give(1, WIDE, 1);
        code.give(2, WORD, 5);
        code.glow(1);
        code.run(1);
        code.run(0);
        // the third EXIT of the while; MADE HOT anew, the + by another PAIR
        Due.is("NOTES", code.notes(), 2);
        Due.is("HOT CODE", code.told(5), 3);
        Due.is("OPEN", code.place(0, 4), 1);
        code.patience(2);
        return code;
    }

    /** Texts with many PLACES and calls, with FAULTS and without, and none of it is left in the ones behind. */
    private static void oneBehindTheOther() {
        HeatedCode code = new HeatedCode();
        for (int k = 0; k < 4; k++) {
            Due.is("40 PLACES", Due.program(code, "fun 3{a=call 0()" + Edge.many("+1", 40) + ";}fun 0{}"), 2);
            Due.is("PLACES", code.told(1), 40);
            Due.is("a FAULT", Due.program(code, "fun 2{a=call 0()" + Edge.many("+1", 40) + ";}fun 0{"), -9);
            Due.is("PLACES", code.told(1), 40);
            Due.is("two PLACES", Due.program(code, "fun 0{}fun 1{if a{return 7-1;}a=call 0();}"), 2);
            int[][] due = {{0, -1, 0, 0}, {1, 0, 2, 1}};
            for (int f = 0; f < 2; f++) {
                Due.is("P", code.function(f, 0), due[f][0]);
                for (int what = 8; what < 11; what++) {
                    Due.is("function " + f + " " + what, code.function(f, what), due[f][what - 7]);
                }
            }
            Due.is("PLACES", code.told(1), 2);
            code.give(0, WHOLE, 1);
            Due.is("run", code.run(1), 0);
            Due.is("value", code.value(), 6);
        }
    }

    private static final String DEEP_AND_COUNT =
        "fun 2{if a{c=call 0(a-1,b);return c;}return b+1;}fun 1{while a{a=a-1;}}fun 0{}";

    /** Of its FUNCTIONS one EXITS, COOLS and LEAVES, one is MADE HOT twice and ENTERED, one is not called. */
    private static HeatedCode worn() {
        HeatedCode code = Due.coded(DEEP_AND_COUNT);
        code.give(0, WHOLE, 2);
        code.give(1, WHOLE, 1);
        code.give(2, WORD, 5);
        code.glow(99);
        code.run(0);
        code.glow(1);
        code.run(0);
        code.patience(1);
        code.give(1, WIDE, 1);
        code.run(0);
        code.run(1);
        return code;
    }

    private static void asNew(HeatedCode code) {
        int[] told = {3, 5, 1, 1, 0, 0};
        for (int what = 0; what < 6; what++) {
            Due.is("told " + what, code.told(what), told[what]);
        }
        for (int what = 0; what < 11; what++) {
            Due.is("latest " + what, code.latest(what), -1);
        }
        for (int f = 0; f < 3; f++) {
            for (int what = 1; what < 8; what++) {
                Due.is("function " + f + " " + what, code.function(f, what), 0);
            }
        }
        for (int place = 0; place < 5; place++) {
            int[] due = {0, 0, 0, 0, -1, -3};
            for (int what = 2; what < 8; what++) {
                Due.is("place " + place + " " + what, code.place(place, what), due[what - 2]);
            }
        }
        Due.is("value", code.value(), 0);
        Due.is("cost", code.cost(), 0);
        Due.is("costs", code.costs(), 0);
        Due.is("notes", code.notes(), 0);
        Due.noElement("note", () -> code.note(0, 0));
        long[] numbers = {2, 1, 5};
        for (int k = 0; k < 3; k++) {
            Due.is("given", code.given(k, 0), numbers[k]);
            Due.is("given", code.given(k, 1), k + 1);
        }
    }

    private static void asBehindClear() {
        HeatedCode code = worn();
        Due.is("the same text", Due.program(code, DEEP_AND_COUNT), 3);
        asNew(code);
    }

    private static void allButTheTapeStays() {
        String[] texts = {"x", "fun 4{}", "fun 0{}fun 0{}fun 0{}fun 0{}fun 0{}", "fun 0{a=call 1();}"};
        for (int k = 0; k < 4; k++) {
            HeatedCode code = used();
            String before = Due.state(code);
            Due.is(texts[k], Due.program(code, texts[k]), k - 9);
            Due.is("all stays", Due.state(code).equals(before) ? 1 : 0, 1);
            Due.is("the PROGRAM, too", code.run(1), 0);
        }
    }

    // ---- promise 5

    private static void givenOnes() {
        Edge.of("GIVEN one k (0 to 2) is of a KIND (0 to 3), a NUMBER", () -> {
            HeatedCode code = new HeatedCode();
            int[] kinds = {0, WHOLE, WIDE, WORD};
            for (int k = 0; k < 3; k++) {
                for (int kind : kinds) {
                    Due.is("give", Due.give(code, k, kind, 0), 0);
                    Due.is("kind", code.given(k, 1), kind);
                    Due.is("number", code.given(k, 0), 0);
                }
            }
            Due.is("the others stay", code.given(0, 1), WORD);
        });
        Edge.of("no such k, KIND; a NUMBER that is none of that KIND", EdgeCallsTest::noSuchNumber);
    }

    private static void taken(int kind, long number) {
        HeatedCode code = new HeatedCode();
        Due.is("give " + kind + " " + number, Due.give(code, 1, kind, number), 0);
        Due.is("number", code.given(1, 0), number);
        Due.is("kind", code.given(1, 1), kind);
    }

    private static void notTaken(int k, int kind, long number) {
        HeatedCode code = used();
        Edge.refused("give " + k + " " + kind + " " + number, code, () -> Due.give(code, k, kind, number),
            Due.NO_ARGUMENT);
    }

    private static void noSuchNumber() {
        int[] none = {-1, Integer.MIN_VALUE, Integer.MAX_VALUE};
        for (int one : none) {
            notTaken(one, 0, 0);
            notTaken(0, one, 0);
        }
        notTaken(3, WHOLE, 1);
        notTaken(0, 4, 0);
        notTaken(0, 0, 1);
        notTaken(0, 0, -1);
        taken(WHOLE, 2147483647);
        taken(WHOLE, -2147483648);
        notTaken(0, WHOLE, 2147483648L);
        notTaken(0, WHOLE, -2147483649L);
        notTaken(0, WHOLE, 4294967296L);
        notTaken(0, WHOLE, Long.MIN_VALUE);
        taken(WIDE, Long.MAX_VALUE);
        taken(WIDE, Long.MIN_VALUE);
        taken(WIDE, 0);
        taken(WORD, 0);
        taken(WORD, 1);
        taken(WORD, 26);
        notTaken(0, WORD, 27);
        notTaken(0, WORD, 31);
        notTaken(0, WORD, 32);
        taken(WORD, 33);
        taken(WORD, Due.word("zzzzzz"));
        notTaken(0, WORD, Due.word("zzzzzz") + 1);
        // a letter that is none at the highest place, within, and a seventh one
        notTaken(0, WORD, 27L << 25);
        notTaken(0, WORD, (1L << 25) + 1);
        notTaken(0, WORD, Due.word("aaaaaa") + (1L << 30));
        notTaken(0, WORD, 1L << 30);
        notTaken(0, WORD, (1L << 60) + 1);
        notTaken(0, WORD, -1);
        notTaken(0, WORD, Long.MIN_VALUE + 1);
        notTaken(0, WORD, Long.MAX_VALUE);
    }

    // ---- promises 6 and 7

    private static void runs() {
        Edge.of("A RUN: 0 it has a VALUE, 1 it is STUCK, 2 SPENT", () -> {
            HeatedCode code = Due.coded("fun 0{}fun 0{return 1/0;}fun 0{while 1{}}fun 0{return call 3();}");
            int[] due = {0, 1, 2, 1};
            for (int f = 0; f < 4; f++) {
                Due.is("run", code.run(f), due[f]);
                Due.is("latest", code.latest(0), due[f]);
            }
        });
        Edge.of("So many RUNS (1 to 30), one behind the other: how many had a VALUE (the latest is the last of these)", () -> {
            HeatedCode code = Due.coded("fun 0{return 1;}fun 0{return 1/0;}");
            Due.is("one", code.runs(0, 1), 1);
            Due.is("30", code.runs(0, 30), 30);
            Due.is("RUNS", code.told(4), 31);
            Due.is("the last of these is HOT", code.cost(), 1);
            Due.is("costs", code.costs(), 9 * 5 + 11 + 21);
            Due.is("none has a VALUE", code.runs(1, 2), 0);
            Due.is("the latest", code.latest(0), 1);
        });
    }

    // ---- promises 8 and 9

    private static void whatIsSet() {
        Edge.of("GLOW (1 to 99) from now on: the one ahead of that", () -> {
            HeatedCode code = Due.coded("fun 0{}");
            Due.is("that at first", code.glow(99), 10);
            code.runs(0, 30);
            code.runs(0, 30);
            code.runs(0, 30);
            code.runs(0, 8);
            Due.is("not HOT by 98", code.told(5), 0);
            code.run(0);
            Due.is("HOT by 99", code.told(5), 1);
            Due.is("the one ahead", code.glow(1), 99);
            Due.is("the one ahead", code.glow(1), 1);
            code.cool(0);
            code.run(0);
            Due.is("HOT by 1", code.told(5), 1);
        });
        Edge.of("PATIENCE (1 to 9) from now on: the one ahead of that (PLACES that have as many EXITS by now are OPEN with"
            + " their next one)", () -> {
                HeatedCode code = Due.coded(ONE_MORE);
                code.glow(1);
                code.give(0, WHOLE, 1);
                Due.is("that at first", code.patience(9), 3);
                code.runs(0, 8);
                Due.is("not OPEN by 8", code.place(0, 4), 0);
                code.run(0);
                Due.is("OPEN by 9", code.place(0, 4), 1);
                Due.is("the one ahead", code.patience(1), 9);
                code.forget(0);
                code.run(0);
                Due.is("OPEN by 1", code.place(0, 4), 1);
                // as many by now, and more
                HeatedCode later = Due.coded(ONE_MORE);
                later.glow(1);
                later.give(0, WHOLE, 1);
                later.patience(9);
                later.runs(0, 3);
                later.patience(3);
                Due.is("as many by now", later.place(0, 4), 0);
                Due.is("still HOT", later.told(5), 1);
                later.run(0);
                Due.is("OPEN with the next one", later.place(0, 4), 1);
                Due.is("that is the fourth", later.place(0, 5), 4);
            });
    }

    // ---- promises 10 to 12

    private static void coolForgetClear() {
        Edge.of("A FUNCTION COOLS: 1 it had HOT CODE, 0 not.", () -> {
            HeatedCode code = Due.coded("fun 0{}fun 0{}");
            code.glow(3);
            Due.is("none at first", code.cool(0), 0);
            code.runs(0, 2);
            code.runs(1, 2);
            Due.is("none yet", code.cool(0), 0);
            Due.is("its HEAT is 0 all the same", code.function(0, 1), 0);
            Due.is("that of the other stays", code.function(1, 1), 2);
            code.runs(0, 3);
            Due.is("it had", code.cool(0), 1);
            Due.is("HEAT", code.function(0, 1), 0);
            Due.is("HOT CODE", code.told(5), 0);
            Due.is("it has none any more", code.cool(0), 0);
        });
        Edge.of("A PLACE has SEEN nothing, is not OPEN, has no EXITS; its FUNCTION COOLS: what it had SEEN (bits by PAIR)",
            EdgeCallsTest::forgotten);
        Edge.of("All PLACES, FUNCTIONS, counts of FUNCTIONS as at first, no RUN was done yet (GIVEN ones, GLOW, PATIENCE"
            + " stay): how many RUNS there were", () -> {
                HeatedCode code = worn();
                Due.is("how many", code.clear(), 4);
                asNew(code);
                Due.is("none", code.clear(), 0);
                Due.is("without a PROGRAM", new HeatedCode().clear(), 0);
                Due.is("as at first", code.run(2), 0);
                Due.is("MADE HOT by its first call", code.function(2, 3), 1);
            });
    }

    private static void forgotten() {
        HeatedCode code = Due.coded("fun 2{c=a=b;d=a=b;}");
        Due.is("nothing", code.forget(1), 0);
        int bits = 0;
        for (int kind = 0; kind < 4; kind++) {
            code.give(0, kind, 0);
            code.give(1, kind, 0);
            code.run(0);
            bits |= 1 << (5 * kind);
        }
        Due.is("the first and the last PAIR, too", code.forget(1), bits);
        Due.is("HEAT", code.function(0, 1), 0);
        Due.is("SEEN", code.place(1, 2), 0);
        Due.is("the other PLACE stays", code.place(0, 2), bits);
        Due.is("nothing any more", code.forget(1), 0);
        code.glow(1);
        code.patience(1);
        code.run(0);
        Due.is("OPEN by an EXIT", code.place(1, 4), 1);
        code.run(0);
        Due.is("HOT", code.told(5), 1);
        Due.is("what it had SEEN", code.forget(1), 1 << 15);
        for (int what = 2; what < 6; what++) {
            Due.is("place " + what, code.place(1, what), 0);
        }
        Due.is("COOLED", code.told(5), 0);
        Due.is("GUESS, were it made", code.place(1, 7), -3);
        // of two FUNCTIONS that of the PLACE
        HeatedCode two = Due.coded("fun 0{if 1{}}fun 0{if 1{}}");
        two.glow(2);
        two.runs(0, 2);
        two.runs(1, 2);
        Due.is("both HOT", two.told(5), 3);
        Due.is("forget", two.forget(1), 2);
        Due.is("its FUNCTION COOLS", two.told(5), 1);
        Due.is("its HEAT", two.function(1, 1), 0);
        Due.is("the other's HEAT", two.function(0, 1), 2);
        Due.is("the other's PLACE", two.place(0, 2), 2);
        Due.is("forget", two.forget(0), 2);
        Due.is("its FUNCTION COOLS", two.told(5), 0);
    }

    // ---- promises 13 to 20

    private static void whatIsTold() {
        Edge.of("5 FUNCTIONS that have HOT CODE (bits), 6 bytes of the TAPE", () -> {
            HeatedCode code = Due.coded("fun 0{}fun 0{}fun 0{}fun 0{}");
            code.glow(1);
            int[] order = {3, 0, 2, 1};
            int[] bits = {8, 9, 13, 15};
            for (int k = 0; k < 4; k++) {
                Due.is("bits", code.told(5), k == 0 ? 0 : bits[k - 1]);
                code.run(order[k]);
            }
            Due.is("all four", code.told(5), 15);
            Due.is("no bytes", code.told(6), 0);
            code.feed(0, 0, 0, 0, 0);
            Due.is("20 bytes", code.told(6), 20);
        });
        Edge.of("1 the KIND of its VALUE (0 without)", () -> {
            HeatedCode code = Due.coded("fun 1{return 'a'+a;}");
            code.give(0, WORD, 2);
            code.run(0);
            Due.is("with", code.latest(1), WORD);
            Due.is("its NUMBER", code.value(), 34);
            code.give(0, WHOLE, 2);
            code.run(0);
            Due.is("without", code.latest(1), 0);
            Due.is("its NUMBER", code.value(), 0);
        });
        Edge.of("4 the PLACE at which it is STUCK (NONE)", () -> {
            HeatedCode code = Due.coded("fun 1{a=1+1;a=1/a;return 1;}fun 0{a=1+1;if none{}}");
            Due.is("STUCK at the last PLACE", code.run(1), 1);
            Due.is("it", code.latest(4), 3);
            Due.is("not STUCK", code.run(0), 0);
            Due.is("none", code.latest(4), -1);
        });
        Edge.of("NONE each: there was none.", () -> {
            HeatedCode code = Due.coded("fun 0{}");
            for (int what = 0; what < 11; what++) {
                Due.is("latest " + what, code.latest(what), -1);
            }
            code.run(0);
            int[] due = {0, 0, 0, 0, -1, 0, 0, 0, 0, 1, 1};
            for (int what = 0; what < 11; what++) {
                Due.is("latest " + what, code.latest(what), due[what]);
            }
        });
        Edge.of("5 EXITS, 6 how many LEFT, 7 ENTERED, 8 MADE HOT, 9 FRAMES there were in all, 10 most of these at one time",
            EdgeCallsTest::countsOfTheLatest);
        Edge.of("`long value()`: The NUMBER of its VALUE (0 without).", () -> {
            HeatedCode code = Due.coded("fun 0{return 9999999999*99;}fun 0{return 1/0;}fun 0{while 1{}}fun 0{}");
            Due.is("no RUN", code.value(), 0);
            for (int f = 1; f < 4; f++) {
                code.run(0);
                Due.is("of 64 bits", code.value(), 989999999901L);
                code.run(f);
                Due.is("without", code.value(), 0);
            }
            code.run(0);
            code.clear();
            Due.is("no RUN any more", code.value(), 0);
        });
        Edge.of("COST of all RUNS.", () -> {
            HeatedCode code = Due.coded("fun 0{while 1{}}fun 0{return 1/0;}fun 0{}");
            Due.is("none", code.costs(), 0);
            code.run(1);
            code.run(2);
            Due.is("of nothing", code.costs(), 0);
            code.glow(99);
            // HEAT 99 by the call and 98 TURNS, with 98 CONDITIONS WALKED; MADE HOT 13, ENTERED 4
            code.run(0);
            Due.is("the first", code.costs(), 98 * 5 + 13 + 4 + 1902);
            code.runs(0, 30);
            code.runs(0, 30);
            Due.is("of all, HOT since", code.costs(), 2409 + 60 * 2000);
            code.clear();
            Due.is("none any more", code.costs(), 0);
        });
        Edge.of("Of a GIVEN one: its NUMBER (what 0), its KIND (1).", () -> {
            HeatedCode code = new HeatedCode();
            long[] numbers = {0, -2147483648, Long.MIN_VALUE, 900557658};
            for (int kind = 0; kind < 4; kind++) {
                Due.give(code, 2, kind, numbers[kind]);
                Due.is("NUMBER", code.given(2, 0), numbers[kind]);
                Due.is("KIND", code.given(2, 1), kind);
            }
            Due.is("another one", code.given(1, 1), 0);
        });
        Edge.of("COST of the latest RUN (0 without)", () -> {
            HeatedCode code = Due.coded("fun 0{return 1;}fun 0{}");
            Due.is("without", code.cost(), 0);
            code.run(0);
            Due.is("with", code.cost(), 5);
            code.run(1);
            Due.is("of the latest", code.cost(), 0);
            Due.is("of all", code.costs(), 5);
        });
        Edge.of("Of a FUNCTION: 0 P, 1 HEAT, 2 1 it has HOT CODE, 0 none, 3 how often it was MADE HOT, 4 ENTERED, 5 EXITS of"
            + " its FRAMES, 6 LEFT", () -> {
                HeatedCode code = worn();
                int[][] due = {{2, 0, 0, 1, 0, 1, 2, 9, 0, 3, 1}, {1, 1, 1, 2, 1, 1, 0, 1, 3, 2, 0},
                    {0, 0, 0, 0, 0, 0, 0, 0, -1, 0, 0}};
                for (int f = 0; f < 3; f++) {
                    for (int what = 0; what < 11; what++) {
                        Due.is("function " + f + " " + what, code.function(f, what), due[f][what]);
                    }
                }
            });
        Edge.of("7 FRAMES it had, 8 its first PLACE (NONE), 9 how many PLACES, 10 FUNCTIONS that it calls (bits)",
            EdgeCallsTest::functions);
        Edge.of("6 GUESS in the HOT CODE there is (the PAIR; -2 OPEN, -3 NEVER; NONE: there is none)", () -> {
            HeatedCode code = Due.coded("fun 1{b=a=none;while a=none{a=0;}if b<0{b=b+1;}}");
            code.run(0);
            // = while = if < +
            int[] due = {0, -2, -2, 0, 5, -3};
            for (int place = 0; place < 6; place++) {
                Due.is("there is none " + place, code.place(place, 6), -1);
                Due.is("were it MADE HOT now " + place, code.place(place, 7), due[place]);
            }
            code.glow(1);
            code.run(0);
            for (int place = 0; place < 6; place++) {
                Due.is("there is " + place, code.place(place, 6), due[place]);
            }
            code.give(0, WHOLE, 1);
            code.run(0);
            Due.is("that of the HOT CODE stays", code.place(0, 6), 0);
            Due.is("another, were it MADE HOT now", code.place(0, 7), -2);
        });
    }

    /** Of each RUN anew. */
    private static void countsOfTheLatest() {
        HeatedCode code = worn();
        // the while EXITS and COOLS; MADE HOT anew and ENTERED; while - set, while HOT
        latestIs(code, new int[] {0, 0, 7, 4, -1, 1, 0, 1, 2, 1, 1}, 10 + 6 + 12 + 15 + 16 + 4 + 4);
        // HEAT 1 makes it HOT anew, and nothing is another PAIR to what it has SEEN but what is OPEN
        code.run(0);
        latestIs(code, new int[] {0, WIDE, 13, 13, -1, 0, 0, 0, 1, 3, 3}, 19 + 13);
        code.glow(99);
        code.run(2);
        latestIs(code, new int[] {0, 0, 0, 0, -1, 0, 0, 0, 0, 1, 1}, 0);
        HeatedCode left = worn();
        left.clear();
        left.give(1, WHOLE, 1);
        left.glow(99);
        left.run(0);
        left.glow(1);
        left.run(0);
        left.give(1, WIDE, 1);
        left.run(0);
        latestIs(left, new int[] {0, WIDE, 13, 7, -1, 1, 2, 0, 0, 3, 3}, 7 + 12 + 10 + 6 + 10 + 6 + 10);
        left.run(2);
        latestIs(left, new int[] {0, 0, 0, 0, -1, 0, 0, 0, 1, 1, 1}, 10);
    }

    private static void latestIs(HeatedCode code, int[] due, int cost) {
        for (int what = 0; what < 11; what++) {
            Due.is("latest " + what, code.latest(what), due[what]);
        }
        Due.is("cost", code.cost(), cost);
    }

    private static void functions() {
        HeatedCode code = Due.coded("fun 0{a=call 0();a=call 1();a=call 2();a=call 3();}fun 0{if 1{a=2*3;}}"
            + "fun 0{a=call 2(call 1());}fun 0{a=1<2;}");
        int[][] due = {{-1, 0, 15}, {0, 2, 0}, {-1, 0, 6}, {2, 1, 0}};
        for (int f = 0; f < 4; f++) {
            for (int k = 0; k < 3; k++) {
                Due.is("function " + f + " " + (8 + k), code.function(f, 8 + k), due[f][k]);
            }
        }
        code.run(1);
        Due.is("FRAMES it had", code.function(1, 7), 1);
        Due.is("STUCK", code.run(2), 1);
        // each of eight FRAMES calls FUNCTION 1 ahead of itself, the eighth of these has no room for it
        Due.is("FRAMES of the one called", code.function(1, 7), 1 + 7);
        Due.is("FRAMES of the one that calls", code.function(2, 7), 8);
    }

    // ---- promises 21 to 24

    private static void whatNotesTell() {
        Edge.of("4 the PAIR by which it went (NONE, if it LEFT)", () -> {
            HeatedCode code = Due.coded("fun 2{if a{c=call 0(a-1,b);return c;}return b=1;}");
            code.give(0, WHOLE, 1);
            code.give(1, WHOLE, 1);
            code.glow(99);
            code.run(0);
            code.glow(1);
            code.run(0);
            code.patience(1);
            code.give(1, 0, 0);
            code.run(0);
            Due.is("notes", code.notes(), 2);
            Due.is("NONE and a WHOLE", code.note(0, 4), 1);
            Due.is("it LEFT", code.note(1, 4), -1);
            Due.is("it LEFT at no PLACE", code.note(1, 1), -1);
            HeatedCode last = Due.coded(COUNT);
            last.glow(2);
            last.give(0, WHOLE, 1);
            last.run(0);
            Due.is("false", last.note(0, 4), 0);
        });
        Edge.of("The KIND of a VARIABLE (0 to 7) in a NOTE.", () -> {
            HeatedCode code = Due.coded("fun 3{d='a';h='b';e=9;return a<b;}");
            code.give(0, WHOLE, -3);
            code.give(1, WIDE, 4);
            code.glow(1);
            code.run(0);
            int[] kinds = {WHOLE, WIDE, 0, WORD, WHOLE, 0, 0, WORD};
            long[] numbers = {-3, 4, 0, 1, 9, 0, 0, 2};
            for (int v = 0; v < 8; v++) {
                Due.is("kind " + v, code.kind(0, v), kinds[v]);
                Due.is("number " + v, code.number(0, v), numbers[v]);
            }
            Due.noArgument("a ninth", () -> code.kind(0, 8));
            Due.noArgument("a ninth", () -> code.number(0, 8));
        });
    }

    // ---- refusals: each call's least and most, and what is beyond these

    private interface Asked {
        long ask(HeatedCode code, int x);
    }

    private static void range(String what, int least, int most, long exception, Asked asked) {
        int[] beyond = {Integer.MIN_VALUE, least - 1, most + 1, Integer.MAX_VALUE};
        for (int x : beyond) {
            HeatedCode code = used();
            Edge.refused(what + " " + x, code, () -> asked.ask(code, x), exception);
        }
        int[] within = {least, most};
        for (int x : within) {
            HeatedCode code = used();
            long got = Due.of(() -> asked.ask(code, x));
            Due.is(what + " " + x + " is none to refuse", got == Due.NO_ELEMENT || got == Due.NO_ARGUMENT ? 1 : 0, 0);
            Due.is("none was", code.status(0) + code.status(1), 0);
        }
    }

    private static void element(String what, int most, Asked asked) {
        range(what, 0, most, Due.NO_ELEMENT, asked);
    }

    private static void argument(String what, int least, int most, Asked asked) {
        range(what, least, most, Due.NO_ARGUMENT, asked);
    }

    private static void refusals() {
        Edge.of("NoSuchElementException: no such FUNCTION, PLACE, NOTE (so below, ahead of others)", () -> {
            noSuchFunction();
            noSuchPlaceOrNote();
            aheadOfOthers();
        });
        Edge.of("IllegalArgumentException: another what (so below)", EdgeCallsTest::anotherWhat);
        Edge.of("`int runs(int function, int many) throws NoSuchElementException, IllegalArgumentException`", () -> {
            argument("runs", 1, 30, (code, x) -> code.runs(0, x));
            argument("ahead", 1, 30, (code, x) -> code.ahead(0, x, 0));
            argument("tune", 1, 8, (code, x) -> code.tune(0, x, 0));
            argument("bear", 1, 8, (code, x) -> code.bear(0, x, 0));
            argument("sorest", 1, 30, (code, x) -> code.sorest(0, x, 0));
        });
        Edge.of("`int glow(int heat) throws IllegalArgumentException`", () ->
            argument("glow", 1, 99, (code, x) -> code.glow(x)));
        Edge.of("`int patience(int exits) throws IllegalArgumentException`", () ->
            argument("patience", 1, 9, (code, x) -> code.patience(x)));
        Edge.of("How many calls were refused: 0 NoSuchElementException, 1 IllegalArgumentException; NONE for others."
            + " (Nothing empties it.)", EdgeCallsTest::howManyWereRefused);
    }

    private static void noSuchFunction() {
        element("run", 1, (code, x) -> code.run(x));
        element("runs", 1, (code, x) -> code.runs(x, 2));
        element("cool", 1, (code, x) -> code.cool(x));
        element("function", 1, (code, x) -> code.function(x, 0));
        element("plain", 1, (code, x) -> code.plain(x, 0));
        element("plainly", 1, (code, x) -> code.plainly(x));
        element("often", 1, (code, x) -> code.often(x, 0));
        element("pairs", 1, (code, x) -> code.pairs(x, 0));
        element("ahead", 1, (code, x) -> code.ahead(x, 1, 0));
        element("pays", 1, (code, x) -> code.pays(x));
        element("tune", 1, (code, x) -> code.tune(x, 1, 0));
        element("bear", 1, (code, x) -> code.bear(x, 1, 0));
        element("sorest", 1, (code, x) -> code.sorest(x, 1, 0));
        element("until", 1, (code, x) -> code.until(x));
    }

    private static void noSuchPlaceOrNote() {
        element("forget", 2, (code, x) -> code.forget(x));
        element("place", 2, (code, x) -> code.place(x, 0));
        element("often", 2, (code, x) -> code.often(0, x));
        element("pairs", 2, (code, x) -> code.pairs(0, x));
        element("note", 1, (code, x) -> code.note(x, 0));
        element("kind", 1, (code, x) -> code.kind(x, 0));
        element("number", 1, (code, x) -> code.number(x, 0));
    }

    private static void aheadOfOthers() {
        HeatedCode code = used();
        Due.noElement("runs", () -> code.runs(2, 0));
        Due.noElement("function", () -> code.function(2, 11));
        Due.noElement("place", () -> code.place(3, 8));
        Due.noElement("note", () -> code.note(99, 5));
        Due.noElement("kind", () -> code.kind(99, 8));
        Due.noElement("number", () -> code.number(99, 8));
        Due.noElement("plain", () -> code.plain(2, 6));
        Due.noElement("ahead", () -> code.ahead(2, 31, 0));
        Due.noElement("ahead", () -> code.ahead(2, 1, 5));
        Due.noElement("tune", () -> code.tune(2, 9, 2));
        Due.noElement("bear", () -> code.bear(2, 9, 2));
        Due.noElement("sorest", () -> code.sorest(2, 31, 2));
        Due.is("each counted once", code.status(0), 12);
        Due.is("and as that alone", code.status(1), 0);
    }

    private static void anotherWhat() {
        argument("told", 0, 6, (code, x) -> code.told(x));
        argument("latest", 0, 10, (code, x) -> code.latest(x));
        argument("given k", 0, 2, (code, x) -> code.given(x, 0));
        argument("given", 0, 1, (code, x) -> code.given(0, x));
        argument("function", 0, 10, (code, x) -> code.function(0, x));
        argument("place", 0, 7, (code, x) -> code.place(0, x));
        argument("note", 0, 4, (code, x) -> code.note(0, x));
        argument("kind", 0, 7, (code, x) -> code.kind(0, x));
        argument("number", 0, 7, (code, x) -> code.number(0, x));
        argument("plain", 0, 5, (code, x) -> code.plain(0, x));
        argument("ahead", 0, 4, (code, x) -> code.ahead(0, 1, x));
        argument("tune", 0, 1, (code, x) -> code.tune(0, 1, x));
        argument("bear", 0, 1, (code, x) -> code.bear(0, 1, x));
        argument("sorest", 0, 1, (code, x) -> code.sorest(0, 1, x));
        // of a RUN there was none of, another what is refused all the same
        Due.noArgument("latest", () -> new HeatedCode().latest(11));
    }

    private static void howManyWereRefused() {
        HeatedCode code = new HeatedCode();
        int[] others = {-1, 2, Integer.MIN_VALUE, Integer.MAX_VALUE};
        for (int what : others) {
            Due.is("others", code.status(what), -1);
        }
        Due.is("none", code.status(0), 0);
        Due.is("none", code.status(1), 0);
        for (int k = 1; k <= 100; k++) {
            Due.noElement("run", () -> code.run(0));
            Due.noArgument("told", () -> code.told(7));
            Due.noArgument("glow", () -> code.glow(0));
        }
        Due.is("elements", code.status(0), 100);
        Due.is("arguments", code.status(1), 200);
        // what answers by a number is no refusal
        Due.is("a FAULT", Due.program(code, "x"), -9);
        for (int k = 0; k < 31; k++) {
            code.feed(0, 0, 0, 0, 0);
        }
        Due.is("a TAPE that is full", code.feed(0, 0, 0, 0, 0), -1);
        Due.is("elements", code.status(0), 100);
        code.program(0);
        code.clear();
        Due.is("nothing empties it", code.status(0), 100);
        Due.is("nothing empties it", code.status(1), 200);
    }
}
