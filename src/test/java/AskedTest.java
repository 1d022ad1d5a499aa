/** Promises 25 to 34: what is asked; all numbers reckoned by hand. */
public final class AskedTest {
    private static final String ONE_MORE = "fun 1{return a+1;}";
    private static final String COUNT = "fun 1{while a{a=a-1;}}";

    private AskedTest() {
    }

    public static void main(String[] args) {
        promise25And26Plain();
        promise27And28OftenAndPairs();
        promise29Ahead();
        promise30Pays();
        promise31Tune();
        promise32Bear();
        promise33Sorest();
        promise34Until();
        wrongOnes();
        Due.end("AskedTest");
    }

    private static HeatedCode coded(String text, int glow, int patience, int a) {
        HeatedCode code = Due.coded(text);
        code.glow(glow);
        code.patience(patience);
        code.give(0, 1, a);
        return code;
    }

    private static void dues(HeatedCode code, long[] due) {
        for (int what = 0; what < due.length; what++) {
            Due.is("plain " + what, code.plain(0, what), due[what]);
        }
    }

    private static void promise25And26Plain() {
        HeatedCode code = coded("fun 1{while a<3{a=a+1;}return call 1(a);}fun 1{return a;}", 1, 1, 1);
        code.runs(0, 4);
        // < while + set, twice; < while; call return return
        dues(code, new long[] {0, 1, 13, -1, 2, 65});
        Due.is("plainly", code.plainly(0), 3);
        Due.is("plainly", code.plainly(1), 1);
        code.give(0, 3, 1);
        dues(code, new long[] {1, 0, 0, 1, 1, 0});
        Due.is("plainly", code.plainly(0), 0);
        HeatedCode loop = coded("fun 0{while 1{}}", 1, 1, 1);
        dues(loop, new long[] {2, 0, 2000, -1, 1, 10000});
        HeatedCode deep = coded("fun 0{return call 0();}", 1, 1, 1);
        dues(deep, new long[] {1, 0, 8, -1, 8, 40});
        HeatedCode word = coded("fun 0{return 'ab';}", 1, 1, 1);
        dues(word, new long[] {0, 3, 1, -1, 1, 5});
        Due.is("plainly", word.plainly(0), 34);
    }

    private static void promise27And28OftenAndPairs() {
        HeatedCode code = coded("fun 1{while a<3{a=a+1;}return call 1(a);}fun 1{return a*a;}", 1, 1, 1);
        code.runs(0, 4);
        int[] often = {3, 3, 2, 1};
        int[] pairs = {3, 32, 32, 32};
        for (int place = 0; place < 4; place++) {
            Due.is("often " + place, code.often(0, place), often[place]);
            Due.is("pairs " + place, code.pairs(0, place), pairs[place]);
            Due.is("often " + place, code.often(1, place), place == 3 ? 1 : 0);
            Due.is("pairs " + place, code.pairs(1, place), place == 3 ? 32 : 0);
        }
        code.give(0, 2, 2);
        Due.is("pairs of <", code.pairs(0, 1), 1 << 9);
        code.give(0, 3, 2);
        Due.is("pairs of < that sticks", code.pairs(0, 1), 1 << 13);
        Due.is("often", code.often(0, 1), 0);
    }

    private static long[] costsAhead(HeatedCode code, int most) {
        long[] costs = new long[most];
        for (int many = 1; many <= most; many++) {
            costs[many - 1] = code.ahead(0, many, 0);
        }
        return costs;
    }

    private static void promise29Ahead() {
        HeatedCode code = coded(ONE_MORE, 3, 3, 1);
        long[] due = {10, 20, 35, 37, 39};
        long[] costs = costsAhead(code, 5);
        for (int k = 0; k < 5; k++) {
            Due.is("cost of " + (k + 1), costs[k], due[k]);
        }
        Due.is("exits", code.ahead(0, 30, 1), 0);
        Due.is("made hot", code.ahead(0, 2, 2), 0);
        Due.is("made hot", code.ahead(0, 30, 2), 1);
        Due.is("none moved", code.ahead(0, 2, 3), 0);
        Due.is("the last that moved", code.ahead(0, 30, 3), 3);
        Due.is("hot steps", code.ahead(0, 5, 4), 6);
        code.runs(0, 3);
        Due.is("done now", code.ahead(0, 2, 0), 4);
        code.give(0, 2, 1);
        // three EXITS, cooled, walked twice, made hot, hot
        Due.is("cost", code.ahead(0, 7, 0), 66 + 20 + 15 + 2);
        Due.is("exits", code.ahead(0, 7, 1), 3);
        Due.is("made hot", code.ahead(0, 7, 2), 1);
        Due.is("the last that moved", code.ahead(0, 7, 3), 6);
        Due.is("the last that moved", code.ahead(0, 4, 3), 3);
        Due.is("hot steps", code.ahead(0, 7, 4), 4);
        HeatedCode deep = coded("fun 2{if a{c=call 0(a-1,b);return c;}return b+1;}", 99, 1, 2);
        deep.give(1, 1, 1);
        deep.run(0);
        deep.glow(1);
        deep.run(0);
        deep.give(1, 2, 1);
        // as in HotTest: 61; then made hot by 19, and 13
        Due.is("cost", deep.ahead(0, 3, 0), 61 + 32 + 13);
        Due.is("the last that moved", deep.ahead(0, 3, 3), 2);
        Due.is("hot steps", deep.ahead(0, 3, 4), 7 + 13 + 13);
    }

    private static void promise30Pays() {
        HeatedCode code = coded(ONE_MORE, 3, 3, 1);
        // 10 20 35 37 against 10 20 30 40
        Due.is("pays", code.pays(0), 4);
        code.runs(0, 5);
        Due.is("from FRESH on", code.pays(0), 4);
        code.glow(1);
        // 35, 22, 22, 15, 2 2 2 2 2: 94 by 4, 104 by 9, 106 by 10, 108 by 11 against 110
        Due.is("pays", code.pays(0), 11);
        code.patience(1);
        // 35, 15, 2 2 2: 56 by 5, 58 by 6
        Due.is("pays", code.pays(0), 6);
        code.glow(30);
        Due.is("made hot too late", code.pays(0), -1);
        code.glow(29);
        // 280, 15, 2: 297 by 30
        Due.is("by the last one", code.pays(0), 30);
        Due.is("nothing to pay", coded("fun 0{}", 1, 1, 0).pays(0), -1);
        // equal is not less: 10 15, then each 2; GLOW 2: 25 27 against 20 30
        Due.is("pays", coded(ONE_MORE, 2, 3, 1).pays(0), 3);
    }

    private static void promise31Tune() {
        HeatedCode code = coded(ONE_MORE, 7, 3, 1);
        long[] heats = {2, 3, 2, 2, 2};
        long[] costs = {10, 20, 27, 29, 31};
        for (int many = 1; many <= 5; many++) {
            Due.is("tune " + many, code.tune(0, many, 0), heats[many - 1]);
            Due.is("tune " + many, code.tune(0, many, 1), costs[many - 1]);
        }
        code.runs(0, 20);
        Due.is("from FRESH on", code.tune(0, 5, 1), 31);
        code.patience(1);
        // PATIENCE as it is: GLOW 1 costs 35 and 15 and 2 each, more than GLOW 2 all the same
        Due.is("tune", code.tune(0, 8, 0), 2);
        Due.is("tune", code.tune(0, 8, 1), 10 + 15 + 12);
        // 10 by GLOW 1, nothing by all others
        HeatedCode none = coded("fun 0{}", 3, 3, 1);
        Due.is("of alike ones the least", none.tune(0, 1, 0), 2);
        Due.is("they cost", none.tune(0, 1, 1), 0);
        tuneUpTo24();
    }

    private static String many(String bit, int times) {
        StringBuilder text = new StringBuilder();
        for (int k = 0; k < times; k++) {
            text.append(bit);
        }
        return text.toString();
    }

    /** The called one, which has no STEP to save, is made HOT for nothing by all GLOWS up to its calls. */
    private static void tuneUpTo24() {
        HeatedCode below = coded("fun 0{if 0{}" + many("a=call 1();", 23) + "}fun 1{}", 3, 3, 1);
        Due.is("the last one alone does not", below.tune(0, 1, 0), 24);
        Due.is("it costs", below.tune(0, 1, 1), 5 + 23 * 10);
        HeatedCode above = coded("fun 0{if 0{}" + many("a=call 1();", 24) + "}fun 1{}", 3, 3, 1);
        // GLOW 1 makes the first one HOT too, with an EXIT at once
        Due.is("all of them do", above.tune(0, 1, 0), 2);
        Due.is("it costs", above.tune(0, 1, 1), 5 + 24 * 10 + 10);
    }

    private static void promise32Bear() {
        HeatedCode code = coded(ONE_MORE, 1, 7, 1);
        Due.is("bear", code.bear(0, 5, 0), 1);
        Due.is("bear", code.bear(0, 5, 1), 56);
        Due.is("alike", code.bear(0, 1, 0), 1);
        Due.is("alike", code.bear(0, 1, 1), 35);
        code.glow(10);
        Due.is("never hot", code.bear(0, 8, 0), 1);
        Due.is("never hot", code.bear(0, 8, 1), 80);
        HeatedCode count = coded(COUNT, 3, 3, 5);
        // 76 and 32, but by PATIENCE 1 cooled by the first: 76 and 60
        Due.is("bear", count.bear(0, 2, 0), 2);
        Due.is("bear", count.bear(0, 2, 1), 108);
        count.runs(0, 3);
        Due.is("from FRESH on", count.bear(0, 2, 1), 108);
        count.patience(1);
        Due.is("whatever PATIENCE there is", count.bear(0, 2, 0), 2);
        count.clear();
        Due.is("cooled by the first", count.ahead(0, 2, 0), 76 + 60);
        bearUpTo9();
    }

    /** Made HOT anew it costs more than nine EXITS do: 10 and 3 for each of 40 PLACES. */
    private static void bearUpTo9() {
        String called = "fun 1{if 0{b=1" + many("+1", 37) + ";}while a{a=a-1;}}";
        HeatedCode code = coded("fun 1{" + many("b=call 1(a);", 9) + "}" + called, 3, 1, 3);
        Due.is("bear", code.bear(0, 1, 0), 9);
        // the calls and what they set; 7 STEPS, 130, 4, three HOT ones and an EXIT; 10 HOT ones and an EXIT
        Due.is("it costs", code.bear(0, 1, 1), 90 + 35 + 130 + 4 + 3 + 17 + 8 * 27);
    }

    private static void promise33Sorest() {
        HeatedCode code = coded("fun 2{c=a+1;d=b+1;}", 1, 9, 1);
        code.give(1, 1, 1);
        Due.is("sorest", code.sorest(0, 20, 0), 0);
        Due.is("its EXITS", code.sorest(0, 20, 1), 9);
        code.runs(0, 4);
        Due.is("those ahead not counted", code.sorest(0, 20, 1), 5);
        Due.is("of these", code.sorest(0, 2, 1), 2);
        code.runs(0, 20);
        Due.is("none", code.sorest(0, 20, 0), -1);
        Due.is("none", code.sorest(0, 20, 1), 0);
        code.give(1, 2, 1);
        Due.is("the other", code.sorest(0, 3, 0), 1);
        Due.is("the other", code.sorest(0, 3, 1), 3);
        // the called one EXITS first, but stands behind
        HeatedCode two = coded("fun 1{b=call 1(a);c=a+1;}fun 1{b=a+1;}", 1, 1, 1);
        Due.is("of alike ones the first", two.sorest(0, 1, 0), 0);
        Due.is("of alike ones the first", two.sorest(0, 1, 1), 1);
        Due.is("of another FUNCTION", two.sorest(1, 30, 0), 1);
        Due.is("never hot", coded(ONE_MORE, 99, 1, 1).sorest(0, 30, 0), -1);
    }

    private static void promise34Until() {
        HeatedCode code = coded(COUNT, 3, 3, 5);
        Due.is("until", code.until(0), 15);
        code.run(0);
        Due.is("done now", code.until(0), 15);
        code.give(0, 1, 1);
        Due.is("until", code.until(0), 3);
        code.give(0, 2, 1);
        Due.is("until", code.until(0), 1);
        code.cool(0);
        Due.is("all of them", code.until(0), 4);
        Due.is("all of none", coded("fun 0{}", 1, 1, 0).until(0), 0);
        Due.is("at once", coded(ONE_MORE, 1, 1, 0).until(0), 0);
        Due.is("spent", coded("fun 0{while 1{}}", 10, 1, 0).until(0), 2000);
    }

    private static void wrongOnes() {
        HeatedCode code = coded(ONE_MORE, 3, 3, 1);
        Due.noArgument("plain", () -> code.plain(0, 6));
        Due.noArgument("plain", () -> code.plain(0, -1));
        Due.noElement("plain", () -> code.plain(1, 6));
        Due.noElement("plainly", () -> code.plainly(-1));
        Due.noElement("often", () -> code.often(1, 0));
        Due.noElement("often", () -> code.often(0, 1));
        Due.noElement("pairs", () -> code.pairs(-1, 0));
        Due.noElement("pairs", () -> code.pairs(0, -1));
        Due.noArgument("ahead", () -> code.ahead(0, 0, 0));
        Due.noArgument("ahead", () -> code.ahead(0, 31, 0));
        Due.noArgument("ahead", () -> code.ahead(0, 1, 5));
        Due.noArgument("ahead", () -> code.ahead(0, 1, -1));
        Due.noElement("ahead", () -> code.ahead(1, 0, 5));
        Due.noElement("pays", () -> code.pays(1));
        Due.noArgument("tune", () -> code.tune(0, 0, 0));
        Due.noArgument("tune", () -> code.tune(0, 9, 0));
        Due.noArgument("tune", () -> code.tune(0, 1, 2));
        Due.noArgument("tune", () -> code.tune(0, 1, -1));
        Due.noElement("tune", () -> code.tune(1, 0, 2));
        Due.noArgument("bear", () -> code.bear(0, 0, 0));
        Due.noArgument("bear", () -> code.bear(0, 9, 0));
        Due.noArgument("bear", () -> code.bear(0, 1, 2));
        Due.noElement("bear", () -> code.bear(1, 0, 2));
        Due.noArgument("sorest", () -> code.sorest(0, 0, 0));
        Due.noArgument("sorest", () -> code.sorest(0, 31, 0));
        Due.noArgument("sorest", () -> code.sorest(0, 1, 2));
        Due.noElement("sorest", () -> code.sorest(1, 0, 2));
        Due.noElement("until", () -> code.until(1));
        Due.is("refused", code.status(0), 12);
        Due.is("refused", code.status(1), 16);
    }
}
