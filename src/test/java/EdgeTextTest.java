/** The PROGRAM's text, its FAULTS and PLACES: each sentence of the document that names a boundary case. */
public final class EdgeTextTest {
    private static final int WHOLE = 1;
    private static final int WIDE = 2;
    private static final int WORD = 3;
    /** 40 PLACES and, of 89 bytes, the next one would be an S. */
    private static final String FORTY = "fun 0{a=1" + Edge.many("+1", 40);

    private EdgeTextTest() {
    }

    public static void main(String[] args) {
        theText();
        unitsOfIt();
        bytes();
        whatCannotStand();
        numbersThatAreNone();
        tooMany();
        behindAllOfIt();
        places();
        Edge.end("EdgeTextTest");
    }

    // ---- what a PROGRAM is

    private static void theText() {
        Edge.of("A PROGRAM is a text of up to 600 bytes", EdgeTextTest::sixHundredBytes);
        Edge.of("{ FUNCTION }, at most 4 (numbered from 0 on)", EdgeTextTest::noneToFourFunctions);
        Edge.of("(P 0 to 3 PARAMETERS)", EdgeTextTest::parameters);
        Edge.of("\"{\" { STATEMENT } \"}\"", EdgeTextTest::noStatements);
        Edge.of("[ \"else\" \"{\" { STATEMENT } \"}\" ]", EdgeTextTest::elseOrNot);
        Edge.of("LETTER: a to h (the VARIABLES; of a FUNCTION each of its own)", EdgeTextTest::letters);
        Edge.of("E: A [ S A ] (S \"<\" or \"=\")", EdgeTextTest::oneSignOfE);
        Edge.of("A: M { S M } (S \"+\" or \"-\")", EdgeTextTest::signsOfA);
        Edge.of("M: U { S U } (S \"*\", \"/\" or \"%\")", EdgeTextTest::signsOfM);
    }

    private static void sixHundredBytes() {
        Edge.good("fun 0{" + Edge.many(" ", 593) + "}", 1);
        Edge.value("fun 0{" + Edge.many(" ", 584) + "return 7;}", WHOLE, 7);
        Edge.bad(1, "fun 0{" + Edge.many(" ", 593) + "^;");
        Edge.bad(1, "fun 0{" + Edge.many(" ", 594) + "^");
    }

    private static void noneToFourFunctions() {
        HeatedCode none = Edge.good("", 0);
        Due.is("FUNCTIONS", none.told(0), 0);
        Due.noElement("the first of none", () -> none.run(0));
        Edge.good("   ", 0);
        HeatedCode one = Edge.good("fun 0{return 10;}", 1);
        Due.noElement("the second of one", () -> one.run(1));
        HeatedCode four = Edge.good("fun 0{return 10;}fun 0{return 11;}fun 0{return 12;}fun 0{return 13;}", 4);
        for (int f = 0; f < 4; f++) {
            Due.is("run", four.run(f), 0);
            Due.is("value", four.value(), 10 + f);
        }
        Due.noElement("the fifth of four", () -> four.run(4));
    }

    private static void parameters() {
        HeatedCode code = Edge.good("fun 0{}fun 1{}fun 2{}fun 3{}", 4);
        for (int f = 0; f < 4; f++) {
            Due.is("P", code.function(f, 0), f);
        }
        Edge.bad(2, "fun ^4{}");
        Edge.bad(1, "fun ^{}");
    }

    private static void noStatements() {
        Edge.value("fun 0{}", 0, 0);
        Edge.value("fun 0{if 1{}else{}return 1;}", WHOLE, 1);
        Edge.value("fun 0{if 0{}else{}return 2;}", WHOLE, 2);
        Edge.value("fun 0{while 0{}return 3;}", WHOLE, 3);
        Edge.value("fun 1{while a=none{a=1;a=2;}return a;}", WHOLE, 2);
        Edge.bad(1, "fun 0{^;}");
    }

    private static void elseOrNot() {
        Edge.value("fun 0{if 0{return 1;}return 2;}", WHOLE, 2);
        Edge.value("fun 0{if 0{return 1;}else{return 2;}return 3;}", WHOLE, 2);
        Edge.value("fun 0{if 1{a=1;}else{a=2;}return a;}", WHOLE, 1);
        Edge.bad(1, "fun 0{^else{}}");
        Edge.bad(1, "fun 0{while 0{}^else{}}");
        Edge.bad(1, "fun 0{if 0{}else{}^else{}}");
        Edge.bad(1, "fun 0{if 0{}else^;}");
        Edge.bad(1, "fun 0{if 0^;else{}}");
        Edge.bad(1, "fun 0{if 0{}else ^if 0{}}");
        Edge.bad(1, "fun 0{if 0{}}^else{}");
    }

    private static void letters() {
        for (char c = 'a'; c <= 'h'; c++) {
            Edge.value("fun 0{" + c + "=7;return " + c + ";}", WHOLE, 7);
        }
        char[] others = {'i', 'z', 'A', 'H', '`', '_'};
        for (char c : others) {
            Edge.bad(1, "fun 0{^" + c + "=7;}");
            Edge.bad(1, "fun 0{a=^" + c + ";}");
        }
        Edge.value("fun 0{h=1;a=2;b=call 1();return h+a;}fun 0{h=5;a=6;}", WHOLE, 3);
    }

    private static void oneSignOfE() {
        Edge.good("fun 0{a=1;b=1<2;c=1=2;}", 1);
        Edge.bad(1, "fun 0{a=1<2^<3;}");
        Edge.bad(1, "fun 0{a=1<2^=3;}");
        Edge.bad(1, "fun 0{a=1=2^<3;}");
        Edge.bad(1, "fun 0{a=1=2^=3;}");
        Edge.bad(1, "fun 0{a=1<^;}");
        Edge.bad(1, "fun 0{a=^<1;}");
        Edge.value("fun 0{return (1<2)<(2=3);}", WHOLE, 0);
        Edge.value("fun 0{return 1+1<1+2;}", WHOLE, 1);
    }

    private static void signsOfA() {
        Edge.value("fun 0{return 9;}", WHOLE, 9);
        Edge.value("fun 0{return 9-5-3+1;}", WHOLE, 2);
        Edge.value("fun 0{return 1" + Edge.many("+1", 39) + "-1;}", WHOLE, 39);
        Edge.value("fun 0{return 9-2*3;}", WHOLE, 3);
        Edge.value("fun 0{return 9-6/3;}", WHOLE, 7);
        Edge.value("fun 0{return 9-7%4+2*2;}", WHOLE, 10);
        Edge.value("fun 0{return 1+2*3;}", WHOLE, 7);
        Edge.value("fun 0{return 5=7-2;}", WHOLE, 1);
        Edge.bad(1, "fun 0{a=^+1;}");
        Edge.bad(1, "fun 0{a=1-^-1;}");
        Edge.bad(1, "fun 0{a=1+^;}");
    }

    private static void signsOfM() {
        Edge.value("fun 0{return 100/3%20*2;}", WHOLE, 26);
        Edge.value("fun 0{return 2" + Edge.many("*1", 40) + ";}", WHOLE, 2);
        Edge.bad(1, "fun 0{a=^*1;}");
        Edge.bad(1, "fun 0{a=1/^%1;}");
        Edge.bad(1, "fun 0{a=1%^;}");
    }

    // ---- U

    private static void unitsOfIt() {
        Edge.of("N (0 to 999,999,999,999: a WHOLE, or, above 2,147,483,647, a WIDE)", EdgeTextTest::numbers);
        Edge.of("\"'\" small letters, 6 at most, \"'\" (nothing else between these)", EdgeTextTest::words);
        Edge.of("a WORD: from 0 on, for each letter 32 times what there is, and 1 (a) to 26 (z)",
            EdgeTextTest::numbersOfWords);
        Edge.of("\"call\" F \"(\" [ E { \",\" E } ] \")\" (F 0 to 3; 3 E at most)", EdgeTextTest::calls);
        Edge.of("\"none\"", () -> Edge.value("fun 0{a=1;a=none;return a;}", 0, 0));
        Edge.of("or \"(\" E \")\"", EdgeTextTest::brackets);
    }

    private static void numbers() {
        Edge.value("fun 0{return 0;}", WHOLE, 0);
        Edge.value("fun 0{return 2147483647;}", WHOLE, 2147483647);
        Edge.value("fun 0{return 2147483648;}", WIDE, 2147483648L);
        Edge.value("fun 0{return 4294967296;}", WIDE, 4294967296L);
        Edge.value("fun 0{return 999999999999;}", WIDE, 999999999999L);
        Edge.bad(2, "fun 0{return ^1000000000000;}");
        Edge.bad(1, "fun 0{return ^-1;}");
    }

    private static void words() {
        Edge.value("fun 0{return '';}", WORD, 0);
        Edge.value("fun 0{return 'a';}", WORD, 1);
        Edge.value("fun 0{return 'zyxwvu';}", WORD, Due.word("zyxwvu"));
        Edge.bad(1, "fun 0{a='zyxwvu^t';}");
        Edge.bad(1, "fun 0{a='^ ab';}");
        Edge.bad(1, "fun 0{a='a^ b';}");
        Edge.bad(1, "fun 0{a='ab^ ';}");
        Edge.bad(1, "fun 0{a='abcdef^ ';}");
        Edge.bad(1, "fun 0{a='^ ';}");
        char[] others = {'1', 'A', 'Z', '{', '`', '\n', ';', (char) 225};
        for (char c : others) {
            Edge.bad(1, "fun 0{a='a^" + c + "';}");
        }
    }

    private static void numbersOfWords() {
        Edge.value("fun 0{return 'z';}", WORD, 26);
        Edge.value("fun 0{return 'aa';}", WORD, 33);
        Edge.value("fun 0{return 'az';}", WORD, 58);
        Edge.value("fun 0{return 'za';}", WORD, 833);
        // 1 + 32 + 32 * 32 .., six times
        Edge.value("fun 0{return 'aaaaaa';}", WORD, 34636833);
        Edge.value("fun 0{return 'zzzzzz';}", WORD, 900557658);
    }

    private static void calls() {
        Edge.value("fun 0{return call 0003();}fun 0{}fun 0{}fun 0{return 5;}", WHOLE, 5);
        Edge.value("fun 1{if a=none{return call 0(3);}return a;}", WHOLE, 3);
        Edge.value("fun 0{return call 1(1,2,3);}fun 3{return a*100+b*10+c;}", WHOLE, 123);
        Edge.value("fun 0{return call 1(1<2,2=2,1+2*3);}fun 3{return a*100+b*10+c;}", WHOLE, 117);
        Edge.bad(2, "fun 0{a=call ^4();}");
        Edge.bad(3, "fun 0{a=call 0(1,2,3^,4);}");
        Edge.bad(1, "fun 0{a=call ^();}");
        Edge.bad(1, "fun 0{a=call 0^;}");
        Edge.bad(1, "fun 0{a=call 0(^,1);}");
        Edge.bad(1, "fun 0{a=call 0(1,^);}");
        Edge.bad(1, "fun 0{a=call 0(1 ^2);}");
        Edge.bad(1, "fun 0{^call 0();}");
    }

    private static void brackets() {
        Edge.value("fun 0{return ((7));}", WHOLE, 7);
        Edge.bad(1, "fun 0{a=(^);}");
        Edge.bad(1, "fun 0{a=(1^;}");
        Edge.bad(1, "fun 0{a=1^);}");
        Edge.bad(1, "fun 0{a=(1^,2);}");
    }

    // ---- numbers, words, blanks

    private static void bytes() {
        Edge.of("Numbers: digits, as many as stand there", EdgeTextTest::digits);
        Edge.of("words: small letters, as many as stand there (a LETTER is a word of one letter)",
            EdgeTextTest::lettersOfWords);
        Edge.of("blanks (32) may stand ahead of all these, and at the end", EdgeTextTest::blanks);
    }

    private static void digits() {
        Edge.good("fun 00{}", 1);
        Edge.good("fun " + Edge.many("0", 593) + "3{}", 1);
        Edge.value("fun 0{return " + Edge.many("0", 500) + "12;}", WHOLE, 12);
        Edge.value("fun0{return1;}", WHOLE, 1);
        Edge.bad(1, "fun 0 ^0{}");
        Edge.bad(1, "fun 0{a=1 ^2;}");
        Edge.bad(1, "fun 0{a=1^:;}");
        Edge.bad(1, "fun 0{a=1^.5;}");
    }

    private static void lettersOfWords() {
        // each word with a letter that is another one, one less, one more
        String[] texts = {"^fun 0{}", "fun 0{^while 1{}}", "fun 0{^if 1{}}", "fun 0{if 1{}^else{}}", "fun 0{^return 1;}",
            "fun 0{a=^none;}", "fun 0{a=^call 0();}"};
        for (String text : texts) {
            int first = text.indexOf('^') + 1;
            int end = first;
            while (text.charAt(end) >= 'a' && text.charAt(end) <= 'z') {
                end++;
            }
            Edge.good(text.replace("^", ""), 1);
            for (int k = first; k < end; k++) {
                Edge.bad(1, text.substring(0, k) + "x" + text.substring(k + 1));
            }
            Edge.bad(1, text.substring(0, end - 1) + text.substring(end));
            Edge.bad(1, text.substring(0, end) + "s" + text.substring(end));
        }
        Edge.bad(1, "^funfun 0{}");
        Edge.bad(1, "fun 0{^aa=1;}");
        Edge.bad(1, "fun 0{a=^bb;}");
        Edge.bad(1, "fun 0{^returna;}");
        Edge.bad(1, "fun 0{a=b^1;}");
        Edge.bad(1, "fun 0{^WHILE 1{}}");
        Edge.good("fun0{while1{return(1);}if0{}else{a='';}}", 1);
        Edge.good("fun 0{a=call0();return'a';}", 1);
    }

    private static void blanks() {
        Edge.good("  fun  0  {  a  =  (  b  <  'x'  )  +  call  0  (  1  ,  none  )  ;  while  1  {  }"
            + "  if  1  {  }  else  {  }  return  0  ;  }  ", 1);
        Edge.value("fun0{return(1+2)*call1(3);}fun1{return a;}", WHOLE, 9);
        char[] others = {0, 9, 10, 13, 31, 33, 127, 160, 255};
        for (char c : others) {
            Edge.bad(1, "^" + c + "fun 0{}");
            Edge.bad(1, "fun^" + c + "0{}");
            Edge.bad(1, "fun 0{ ^" + c + "}");
            Edge.bad(1, "fun 0{} ^" + c);
        }
    }

    // ---- FAULTS

    private static void whatCannotStand() {
        Edge.of("FAULTS, the first from the left", EdgeTextTest::theFirst);
        Edge.of("at its first byte", EdgeTextTest::atItsFirstByte);
        Edge.of("1 what can't stand there", EdgeTextTest::whatOnlyStandsElsewhere);
        Edge.of("at the length, if the text ends too early", EdgeTextTest::endsTooEarly);
        Edge.of("a seventh letter between \"'\": at that", EdgeTextTest::seventhLetter);
    }

    private static void theFirst() {
        Edge.bad(2, "fun ^4{a=i;}");
        Edge.bad(1, "fun 0{a=^i;b=1000000000000;}");
        Edge.bad(2, "fun 0{a=^1000000000000;b=i;}");
        Edge.bad(3, "fun 0{a=call 0(1,2,3^,i);}");
        Edge.bad(1, "fun 0{a=call 0(1,2,^i,4);}");
        Edge.bad(1, "^x fun 9{}");
        Edge.bad(1, "fun 0{a=1" + Edge.many("+1", 39) + "+^i+1;}");
        Edge.bad(3, FORTY + "^+i;}");
    }

    private static void atItsFirstByte() {
        Edge.bad(1, "   ^fan 0{}");
        Edge.bad(2, "fun   ^17{}");
        Edge.bad(2, "fun 0{a=  ^9999999999999;}");
        Edge.bad(2, "fun 0{a=call  ^12();}");
        Edge.bad(4, "fun 0{a=call  ^0001();}");
        Edge.bad(1, "fun 0{  ^abc=1;}");
        Edge.bad(3, FORTY + ";  ^while 1{}}");
        Edge.bad(3, Edge.many("fun 0{}", 4) + "  ^fun 0{}");
    }

    private static void whatOnlyStandsElsewhere() {
        Edge.bad(1, "^{}");
        Edge.bad(1, "^0");
        Edge.bad(1, "fun ^fun 0{}");
        Edge.bad(1, "fun ^'0'{}");
        Edge.bad(1, "fun 0^(1);}");
        Edge.bad(1, "fun 0{}^}");
        Edge.bad(1, "fun 0{^{}}");
        Edge.bad(1, "fun 0{^fun 0{}}");
        Edge.bad(1, "fun 0{^1=a;}");
        Edge.bad(1, "fun 0{^none=1;}");
        Edge.bad(1, "fun 0{a^<1;}");
        Edge.bad(1, "fun 0{a=^;}");
        Edge.bad(1, "fun 0{a=^=1;}");
        Edge.bad(1, "fun 0{a=1^}");
        Edge.bad(1, "fun 0{a=1^,b=2;}");
        Edge.bad(1, "fun 0{a=^return 1;}");
        Edge.bad(1, "fun 0{return^;}");
        Edge.bad(1, "fun 0{while^{}}");
        Edge.bad(1, "fun 0{if ^if 1{}}");
        Edge.bad(1, "fun 0{if 1 ^a=1;}");
        Edge.bad(1, "fun 0{a=^!1;}");
    }

    private static void endsTooEarly() {
        String[] starts = {"fun", "fun 1", "fun 1{", "fun 1{a", "fun 1{a=", "fun 1{a=1", "fun 1{a=b", "fun 1{a=1;",
            "fun 1{a=(", "fun 1{a=(1", "fun 1{a=1+", "fun 1{a=1<", "fun 1{a=none", "fun 1{a=''", "fun 1{a=call",
            "fun 1{a=call 0", "fun 1{a=call 0(", "fun 1{a=call 0(1", "fun 1{a=call 0(1,", "fun 1{a=call 0()",
            "fun 1{while", "fun 1{while 1", "fun 1{while 1{", "fun 1{while 1{}", "fun 1{if", "fun 1{if 1", "fun 1{if 1{",
            "fun 1{if 1{}", "fun 1{if 1{}else", "fun 1{if 1{}else{", "fun 1{return", "fun 1{return 1", "fun 0{}fun"};
        for (String start : starts) {
            Edge.bad(1, start + "^");
            Edge.bad(1, start + "  ^");
        }
        // within a word no blank may stand, so that one would be a FAULT itself
        Edge.bad(1, "fun 1{a='^");
        Edge.bad(1, "fun 1{a='abc^");
        Edge.bad(1, "fun 1{a='abcdef^");
        // the text is as long as program is told, whatever stands on the TAPE behind it
        HeatedCode code = new HeatedCode();
        Due.lay(code, "fun 0{a=1;}");
        Due.is("its last byte is missing", code.program(10), -9);
        Due.is("at the length", code.fault(), 10);
    }

    private static void seventhLetter() {
        Edge.bad(1, "fun 0{a='abcdef^g';}");
        Edge.bad(1, "fun 0{a='abcdef^gh';}");
        Edge.bad(1, "fun 0{a='abcdef^g");
        Edge.bad(1, "fun 0{a='aaaaaa^a';b=i;}");
        Edge.good("fun 0{a='abcdef'+'g';}", 1);
    }

    private static void numbersThatAreNone() {
        Edge.of("2 a number that is none such", () -> {
            // each but the first of a row would be one of 0 to 3, if it were cut to 32 or 64 bits
            String[] digits = {"4", "4294967296", "4294967299", "18446744073709551616", "18446744073709551617"};
            for (String number : digits) {
                Edge.bad(2, "fun ^" + number + "{}");
                Edge.bad(2, "fun 0{a=call ^" + number + "();}");
            }
            Edge.bad(2, "fun 0{a=^1000000000000;}");
            Edge.bad(2, "fun 0{a=^18446744073709551616;}");
            Edge.bad(2, "fun 0{a=^18446744073709551617;}");
            Edge.bad(2, "fun 0{a=^" + Edge.many("9", 580) + ";}");
            Edge.bad(2, "fun 0{a=^0001000000000000;}");
            Edge.bad(2, "fun ^" + Edge.many("0", 500) + "4{}");
            Edge.bad(2, "fun 0{a=^1000000000000");
        });
    }

    private static void tooMany() {
        Edge.of("3 a 5th FUNCTION (at its word)", EdgeTextTest::fifthFunction);
        Edge.of("a 41st PLACE (at it)", EdgeTextTest::fortyFirstPlace);
        Edge.of("a 7th \"{\" that is open at one time", EdgeTextTest::seventhBrace);
        Edge.of("a 7th \"(\" likewise (that of a call, too)", EdgeTextTest::seventhBracket);
        Edge.of("a 4th E of a call (at the \",\" ahead of it)", EdgeTextTest::fourthOfACall);
        Edge.of("of one the least", EdgeTextTest::theLeastOfOne);
    }

    private static void fifthFunction() {
        String four = Edge.many("fun 0{}", 4);
        Edge.good(four + "  ", 4);
        Edge.bad(3, four + "^fun 0{}");
        Edge.bad(3, four + " ^fun");
        Edge.bad(3, four + "^fun 9{");
        Edge.bad(1, four + "^funn 0{}");
        Edge.bad(1, four + "^fu");
    }

    private static void fortyFirstPlace() {
        HeatedCode code = Edge.good(FORTY + ";b=a;return b;}", 1);
        Due.is("40 PLACES", code.told(1), 40);
        Edge.bad(3, FORTY + "^+1;}");
        Edge.bad(3, FORTY + "^-1;}");
        Edge.bad(3, FORTY + "^*1;}");
        Edge.bad(3, FORTY + "^/1;}");
        Edge.bad(3, FORTY + "^%1;}");
        Edge.bad(3, FORTY + "^<1;}");
        Edge.bad(3, FORTY + "^=1;}");
        Edge.bad(3, FORTY + ";^while 1{}}");
        Edge.bad(3, FORTY + ";^if 1{}}");
        // of all FUNCTIONS together
        Edge.bad(3, "fun 0{a=1" + Edge.many("+1", 30) + ";}fun 0{a=1" + Edge.many("*1", 10) + ";^if 1{}}");
        String[] lasts = {"=1;}", "<1;}", "*1;}", ";while 1{}}", ";if 1{}}"};
        for (String last : lasts) {
            Due.is(last, Edge.good("fun 0{a=1" + Edge.many("+1", 39) + last, 1).told(1), 40);
        }
    }

    private static void seventhBrace() {
        String six = "fun 0{" + Edge.many("if 1{", 5);
        Edge.good(six + Edge.many("}", 6), 1);
        Edge.bad(3, six + "if 1^{");
        Edge.bad(3, six + "while 1 ^{}" + Edge.many("}", 6));
        Edge.good(six + Edge.many("}", 5) + Edge.many("while 1{", 5) + Edge.many("}", 6), 1);
        Edge.good("fun 0{" + Edge.many("if 1{}else{", 5) + Edge.many("}", 6), 1);
        Edge.bad(3, "fun 0{" + Edge.many("if 1{}else{", 5) + "if 1^{}" + Edge.many("}", 6));
        Edge.good(Edge.many("fun 0{if 1{}}", 4), 4);
    }

    private static void seventhBracket() {
        Edge.value("fun 0{return ((((((7))))));}", WHOLE, 7);
        Edge.value("fun 0{return ((((((7))))))+((((((8))))));}", WHOLE, 15);
        Edge.bad(3, "fun 0{a=((((((^(7)))))));}");
        Edge.good("fun 0{a=" + Edge.many("call 0(", 6) + Edge.many(")", 6) + ";}", 1);
        Edge.bad(3, "fun 0{a=" + Edge.many("call 0(", 6) + "call 0^());}");
        Edge.good("fun 0{a=(((((call 0(1)))))) ;}", 1);
        Edge.bad(3, "fun 0{a=((((((call 0 ^(1)))))));}");
        Edge.bad(3, "fun 0{a=call 0((((((^(1)))))));}");
        Edge.good("fun 0{a=call 0((((((1))))),(((((2))))));}", 1);
    }

    private static void fourthOfACall() {
        Edge.good("fun 0{a=call 0(1,2,3);}", 1);
        Edge.bad(3, "fun 0{a=call 0(1,2,3^,4);}");
        Edge.bad(3, "fun 0{a=call 0(1,2,3  ^, 4);}");
        Edge.good("fun 0{a=call 0(call 0(1,2,3),call 0(1,2,3),call 0(1,2,3));}", 1);
        Edge.bad(3, "fun 0{a=call 0(call 0(1,2,3),2,3^,4);}");
        Edge.bad(3, "fun 0{a=call 0(1,call 0(1,2,3^,4),3);}");
    }

    private static void theLeastOfOne() {
        Edge.bad(1, "fun 0{a=1" + Edge.many("+1", 39) + "<1^<1;}");
        Edge.bad(1, FORTY + " ^while 1{}}");
        Edge.bad(1, "fun 0{" + Edge.many("if 1{", 5) + "^{");
        Edge.bad(1, "fun 0{a=((((((1^(");
        Edge.bad(1, "fun 0{a=call 0(1,2,3+^,4);}");
        Edge.bad(1, Edge.many("fun 0{}", 3) + "fun 0{^fun 0{}}");
        Edge.bad(1, "fun 0{a=1 ^1000000000000;}");
        Edge.bad(1, "fun 0{}^4{}");
    }

    private static void behindAllOfIt() {
        Edge.of("behind all of it: 4 the first F, from the left, that no FUNCTION is (at it)", () -> {
            Edge.bad(4, "fun 0{a=call ^1();}");
            Edge.bad(4, "fun 0{a=call ^3();}fun 0{}fun 0{}");
            Edge.good("fun 0{a=call 3();}fun 0{}fun 0{}fun 0{}", 4);
            Edge.bad(4, "fun 0{a=call ^2(call 1());}");
            Edge.bad(4, "fun 0{a=call 0(call ^1(),call 2());}");
            Edge.bad(4, "fun 0{a=call 0();b=call ^3();c=call 1();d=call 3();}");
            Edge.bad(4, "fun 0{a=call 1();}fun 0{a=call ^2();}");
            Edge.bad(1, "fun 0{a=call 1();}^x");
            Edge.bad(1, "fun 0{a=call 1();^");
            Edge.bad(2, "fun 0{a=call 1();b=^1000000000000;}");
            Edge.bad(3, "fun 0{a=call 1(1,2,3^,4);}");
        });
    }

    // ---- PLACES

    private static void places() {
        Edge.of("PLACES, numbered from 0 on as they stand: each S (of these FUNCTIONS) is one, each \"while\" and each "
            + "\"if\" (its CONDITION)", () -> {
                HeatedCode code = Edge.good("fun 0{a=(1+2)*3<4-5;while b{b=6/7;}if 8%9{}}fun 0{}fun 0{c=1=2;}", 3);
                int[] which = {0, 2, 5, 1, 7, 3, 8, 4, 6};
                Due.is("PLACES", code.told(1), 9);
                for (int place = 0; place < 9; place++) {
                    Due.is("which of " + place, code.place(place, 1), which[place]);
                    Due.is("whose of " + place, code.place(place, 0), place < 8 ? 0 : 2);
                }
                Due.is("the first of the last", code.function(2, 8), 8);
                HeatedCode none = Edge.good("fun 0{a=1;b=call 0(a,2);return(a);}", 1);
                Due.is("a set, a call, a return are none", none.told(1), 0);
                Due.noElement("the first of none", () -> none.place(0, 0));
            });
    }
}
