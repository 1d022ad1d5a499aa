/** Promises 1 to 5: a new object, the TAPE, the PROGRAM, its FAULTS, GIVEN ones. */
public final class ProgramTest {
    private ProgramTest() {
    }

    public static void main(String[] args) {
        promise1NewObject();
        promise2Feed();
        promise3Program();
        promise3AFaultKeepsAll();
        promise3GoodTexts();
        promise4WhatCannotStand();
        promise4NumbersThatAreNone();
        promise4TooMany();
        promise4NoSuchFunction();
        promise5Give();
        promise5Words();
        Due.end("ProgramTest");
    }

    private static void promise1NewObject() {
        HeatedCode code = new HeatedCode();
        Due.is("functions", code.told(0), 0);
        Due.is("places", code.told(1), 0);
        Due.is("GLOW", code.told(2), 10);
        Due.is("PATIENCE", code.told(3), 3);
        Due.is("runs", code.told(4), 0);
        Due.is("hot", code.told(5), 0);
        Due.is("tape", code.told(6), 0);
        Due.is("fault", code.fault(), -1);
        Due.is("notes", code.notes(), 0);
        for (int what = 0; what < 11; what++) {
            Due.is("latest " + what, code.latest(what), -1);
        }
        for (int k = 0; k < 3; k++) {
            Due.is("given", code.given(k, 0), 0);
            Due.is("given", code.given(k, 1), 0);
        }
    }

    private static void promise2Feed() {
        HeatedCode code = new HeatedCode();
        // "fun 0{return 7;}" and four bytes more
        Due.is("feed", code.feed(0x66756e20, 0x307b7265, 0x7475726e, 0x20373b7d, 0x80ff0100), 20);
        Due.is("tape", code.told(6), 20);
        Due.is("program", code.program(16), 1);
        Due.is("run", code.run(0), 0);
        Due.is("value", code.value(), 7);
        for (int k = 1; k <= 30; k++) {
            Due.is("feed", code.feed(0x20202020, 0x20202020, 0x20202020, 0x20202020, -1), 20 * k);
        }
        Due.is("a feed too many", code.feed(0, 0, 0, 0, 0), -1);
        Due.is("tape", code.told(6), 600);
        Due.is("status", code.status(0) + code.status(1), 0);
        Due.is("program of blanks and a 255", code.program(17), -9);
        Due.is("at it", code.fault(), 16);
    }

    private static void promise3Program() {
        HeatedCode code = new HeatedCode();
        Due.noArgument("more than the TAPE has", () -> code.program(1));
        Due.noArgument("less than none", () -> code.program(-1));
        Due.is("none", code.program(0), 0);
        Due.lay(code, "fun 0{}fun 1{}fun 2{}");
        Due.is("tape", code.told(6), 40);
        Due.noArgument("more than the TAPE has", () -> code.program(41));
        Due.is("the TAPE stays", code.told(6), 40);
        Due.is("the first bytes alone", code.program(14), 2);
        Due.is("the TAPE is empty", code.told(6), 0);
        Due.is("P of the second", code.function(1, 0), 1);
        StringBuilder longest = new StringBuilder("fun 3{");
        while (longest.length() < 599) {
            longest.append(' ');
        }
        Due.is("600 bytes", Due.program(code, longest.append('}').toString()), 1);
    }

    private static void promise3AFaultKeepsAll() {
        HeatedCode code = Due.coded("fun 1{return a+4;}");
        code.give(0, 1, 3);
        code.glow(2);
        code.patience(5);
        code.runs(0, 3);
        Due.is("a fault", Due.program(code, "fun 0{return 1;}fun"), -9);
        Due.is("fault", code.fault(), 19);
        Due.is("tape", code.told(6), 0);
        Due.is("functions", code.told(0), 1);
        Due.is("runs", code.told(4), 3);
        Due.is("hot", code.told(5), 1);
        Due.is("value", code.value(), 7);
        Due.is("run", code.run(0), 0);
        Due.is("value", code.value(), 7);
        Due.is("a good one", Due.program(code, "fun 1{return a+5;}"), 1);
        Due.is("fault", code.fault(), -1);
        Due.is("GLOW stays", code.told(2), 2);
        Due.is("PATIENCE stays", code.told(3), 5);
        Due.is("GIVEN ones stay", code.given(0, 0), 3);
        Due.is("runs", code.told(4), 0);
        Due.is("hot", code.told(5), 0);
        Due.is("latest", code.latest(0), -1);
        Due.is("costs", code.costs(), 0);
        Due.is("seen", code.place(0, 2), 0);
        Due.is("heat", code.function(0, 1), 0);
        Due.is("frames", code.function(0, 7), 0);
    }

    private static void good(String text, int functions) {
        HeatedCode code = new HeatedCode();
        Due.is(text, Due.program(code, text), functions);
        Due.is("fault of " + text, code.fault(), -1);
    }

    private static void bad(String text, int answer, int at) {
        HeatedCode code = new HeatedCode();
        Due.is(text, Due.program(code, text), answer);
        Due.is("fault of " + text, code.fault(), at);
    }

    private static void promise3GoodTexts() {
        good("", 0);
        good("   ", 0);
        good("fun0{}", 1);
        good(" fun 0 { } fun 1 { } ", 2);
        good("fun 0{}fun 1{}fun 2{}fun 3{}", 4);
        good("fun 00000000000000000000000003{}", 1);
        good("fun 0{return1;}", 1);
        good("fun 0{if(1){}else{}}", 1);
        good("fun 0{a = ( 1 < 2 ) = 3 ; }", 1);
        good("fun 0{a= 'abcdef' +'' ;h=none;}", 1);
        good("fun 0{a=call1( 1 ,2,( 3) );}fun 0{}", 2);
        good("fun 0{a=((((((1))))))+((((((1))))));}", 1);
        good("fun 0{if 1{if 1{if 1{if 1{if 1{}}}}}if 1{if 1{if 1{if 1{if 1{}}}}}}", 1);
        good("fun 0{return call 00000000000000000001(0000000000000000000000000000007);}fun 1{}", 2);
    }

    private static void promise4WhatCannotStand() {
        bad("funn 0{}", -9, 0);
        bad(" fu", -9, 1);
        bad("fun", -9, 3);
        bad("fun   ", -9, 6);
        bad("fun x{}", -9, 4);
        bad("fun 0(", -9, 5);
        bad("fun 0{}}", -9, 7);
        bad("fun 0{\n}", -9, 6);
        bad("fun 0{ab=1;}", -9, 6);
        bad("fun 0{A=1;}", -9, 6);
        bad("fun 0{i=1;}", -9, 6);
        bad("fun 0{a=i;}", -9, 8);
        bad("fun 0{a=nonea;}", -9, 8);
        bad("fun 0{a=no", -9, 8);
        bad("fun 0{a=1b;}", -9, 9);
        bad("fun 0{a=1 2;}", -9, 10);
        bad("fun 0{a=-1;}", -9, 8);
        bad("fun 0{a=1+;}", -9, 10);
        bad("fun 0{a=1<2<3;}", -9, 11);
        bad("fun 0{a=1<2=3;}", -9, 11);
        bad("fun 0{a=();}", -9, 9);
        bad("fun 0{a=(1;}", -9, 10);
        bad("fun 0{a=call 0;}", -9, 14);
        bad("fun 0{a=call (1);}", -9, 13);
        bad("fun 0{a=calla(1);}", -9, 8);
        bad("fun 0{a=call 0(,);}", -9, 15);
        bad("fun 0{a=call 0(1,);}", -9, 17);
        bad("fun 0{a=call 0(1 2);}", -9, 17);
        bad("fun 0{a='aB';}", -9, 10);
        bad("fun 0{a=' a';}", -9, 9);
        bad("fun 0{a='abcdef", -9, 15);
        bad("fun 0{a='abcdefg", -9, 15);
        bad("fun 0{return 1}", -9, 14);
        bad("fun 0{returna;}", -9, 6);
        bad("fun 0{whilea{}}", -9, 6);
        bad("fun 0{while{}}", -9, 11);
        bad("fun 0{else{}}", -9, 6);
        bad("fun 0{if 1{}else if 1{}}", -9, 17);
        bad("fun 0{if 1{}else{}else{}}", -9, 18);
        bad("fun 0{;}", -9, 6);
        bad("fun 0{a=1;  ", -9, 12);
    }

    private static void promise4NumbersThatAreNone() {
        good("fun 0{a=999999999999;}", 1);
        bad("fun 0{a=1000000000000;}", -8, 8);
        bad("fun 0{a= 0001000000000000;}", -8, 9);
        bad("fun 0{a=99999999999999999999999999999999999;}", -8, 8);
        bad("fun 4{}", -8, 4);
        bad("fun 18446744073709551617{}", -8, 4);
        bad("fun 0{a=call 4();}", -8, 13);
        bad("fun 0{a=call 4294967296();}", -8, 13);
    }

    private static String many(String bit, int times) {
        StringBuilder text = new StringBuilder();
        for (int k = 0; k < times; k++) {
            text.append(bit);
        }
        return text.toString();
    }

    private static void promise4TooMany() {
        bad("fun 0{}fun 0{}fun 0{}fun 0{} fun", -7, 29);
        bad("fun 0{}fun 0{}fun 0{}fun 0{} funn", -9, 29);
        good("fun 0{a=1" + many("+1", 40) + ";}", 1);
        bad("fun 0{a=1" + many("+1", 41) + ";}", -7, 89);
        bad("fun 0{a=1" + many("+1", 40) + "; while 1{}}", -7, 91);
        bad("fun 0{a=1" + many("+1", 40) + ";if 1{}}", -7, 90);
        bad("fun 0{a=1" + many("+1", 40) + " =1;}", -7, 90);
        bad("fun 0{a=1" + many("+1", 39) + "=1=1;}", -9, 89);
        bad("fun 0{a=1" + many("+1", 30) + ";}fun 0{a=1" + many("*1", 11) + ";}", -7, 100);
        bad("fun 0{" + many("if 1{", 6) + "}", -7, 35);
        bad("fun 0{" + many("while 1{", 5) + "if 1 {", -7, 51);
        bad("fun 0{a=" + many("(", 7), -7, 14);
        bad("fun 0{a=" + many("call 0(", 7), -7, 56);
        bad("fun 0{a=((((((call 0 (", -7, 21);
        bad("fun 0{a=((((((call 0 ;", -9, 21);
        good("fun 0{a=call 0(1,2,3);}", 1);
        bad("fun 0{a=call 0(1,2,3 ,", -7, 21);
        bad("fun 0{a=call 0(1,2,3;", -9, 20);
    }

    private static void promise4NoSuchFunction() {
        bad("fun 0{a=call 1();}", -6, 13);
        bad("fun 0{a=call 0(call 2(),call 1());}", -6, 20);
        bad("fun 0{a=call 3();}fun 0{a=call 2();}", -6, 13);
        bad("fun 0{a=call 1();}fun 0{a=call 03();}", -6, 31);
        bad("fun 0{a=call 3();", -9, 17);
        bad("fun 0{a=call 3();b=1000000000000;}", -8, 19);
        good("fun 0{a=call 3();}fun 0{}fun 0{}fun 0{}", 4);
    }

    private static void promise5Give() {
        HeatedCode code = new HeatedCode();
        Due.is("NONE", Due.give(code, 0, 0, 0), 0);
        Due.is("a NONE that is 1", Due.give(code, 0, 0, 1), Due.NO_ARGUMENT);
        Due.is("WHOLE", Due.give(code, 1, 1, 2147483647), 0);
        Due.is("its NUMBER", code.given(1, 0), 2147483647);
        Due.is("its KIND", code.given(1, 1), 1);
        Due.is("WHOLE", Due.give(code, 1, 1, -2147483648), 0);
        Due.is("no WHOLE", Due.give(code, 1, 1, 2147483648L), Due.NO_ARGUMENT);
        Due.is("no WHOLE", Due.give(code, 1, 1, -2147483649L), Due.NO_ARGUMENT);
        Due.is("it stays", code.given(1, 0), -2147483648);
        Due.is("WIDE", Due.give(code, 2, 2, Long.MIN_VALUE), 0);
        Due.is("WIDE", Due.give(code, 2, 2, Long.MAX_VALUE), 0);
        Due.is("its NUMBER", code.given(2, 0), Long.MAX_VALUE);
        Due.is("WIDE of 32 bits", Due.give(code, 2, 2, 1), 0);
        Due.is("its KIND", code.given(2, 1), 2);
        Due.is("no KIND", Due.give(code, 0, 4, 0), Due.NO_ARGUMENT);
        Due.is("no KIND", Due.give(code, 0, -1, 0), Due.NO_ARGUMENT);
        Due.is("no k", Due.give(code, 3, 0, 0), Due.NO_ARGUMENT);
        Due.is("no k", Due.give(code, -1, 0, 0), Due.NO_ARGUMENT);
        Due.is("refused", code.status(1), 7);
    }

    private static void promise5Words() {
        HeatedCode code = new HeatedCode();
        Due.is("''", Due.give(code, 0, 3, 0), 0);
        Due.is("'a'", Due.give(code, 0, 3, 1), 0);
        Due.is("'z'", Due.give(code, 0, 3, 26), 0);
        Due.is("a 27th letter", Due.give(code, 0, 3, 27), Due.NO_ARGUMENT);
        Due.is("a letter that is 0", Due.give(code, 0, 3, 32), Due.NO_ARGUMENT);
        Due.is("a letter that is 0, within", Due.give(code, 0, 3, 32 * 32 + 1), Due.NO_ARGUMENT);
        Due.is("'aa'", Due.give(code, 0, 3, 33), 0);
        Due.is("'zzzzzz'", Due.give(code, 0, 3, Due.word("zzzzzz")), 0);
        Due.is("seven letters", Due.give(code, 0, 3, Due.word("aaaaaaa")), Due.NO_ARGUMENT);
        Due.is("less than none", Due.give(code, 0, 3, -1), Due.NO_ARGUMENT);
        Due.is("far less than none", Due.give(code, 0, 3, Long.MIN_VALUE), Due.NO_ARGUMENT);
        Due.is("it stays", code.given(0, 0), Due.word("zzzzzz"));
    }
}
