import java.util.NoSuchElementException;

/** What the tests share: a count of what is wrong, a text fed to an object, and what a call answered or threw. */
final class Due {
    /** Answers that stand for what a call threw; no call of the tests answers these. */
    static final long NO_ELEMENT = Long.MIN_VALUE + 77;
    static final long NO_ARGUMENT = Long.MIN_VALUE + 78;

    private static int wrong = 0;
    private static int right = 0;

    private Due() {
    }

    interface Call {
        long ask();
    }

    /** What a call answers, or which of the document's exceptions it throws; all else goes through. */
    static long of(Call call) {
        try {
            return call.ask();
        } catch (NoSuchElementException e) {
            return NO_ELEMENT;
        } catch (IllegalArgumentException e) {
            return NO_ARGUMENT;
        }
    }

    static void is(String what, long got, long due) {
        if (got == due) {
            right++;
            return;
        }
        wrong++;
        System.out.println(what + " answered " + named(got) + ", due is " + named(due));
    }

    static void is(String what, Call call, long due) {
        is(what, of(call), due);
    }

    static void noElement(String what, Call call) {
        is(what, of(call), NO_ELEMENT);
    }

    static void noArgument(String what, Call call) {
        is(what, of(call), NO_ARGUMENT);
    }

    static int wrong() {
        return wrong;
    }

    static int answers() {
        return wrong + right;
    }

    private static String named(long answer) {
        if (answer == NO_ELEMENT) {
            return "a NoSuchElementException";
        }
        return answer == NO_ARGUMENT ? "an IllegalArgumentException" : Long.toString(answer);
    }

    /** Gives one k; as a call that answers, so that of() can take it. */
    static long give(HeatedCode code, int k, int kind, long number) {
        return of(() -> {
            code.give(k, kind, number);
            return 0;
        });
    }

    /** Lays a text on the TAPE, filled up with 0, and tells the bytes there are then. */
    static int lay(HeatedCode code, String text) {
        int bytes = code.told(6);
        for (int at = 0; at < text.length(); at += 20) {
            int[] five = new int[5];
            for (int k = 0; k < 20; k++) {
                int c = at + k < text.length() ? text.charAt(at + k) : 0;
                five[k / 4] = five[k / 4] << 8 | c;
            }
            bytes = code.feed(five[0], five[1], five[2], five[3], five[4]);
        }
        return bytes;
    }

    /** Makes a text the PROGRAM, from an empty TAPE on. */
    static int program(HeatedCode code, String text) {
        lay(code, text);
        return code.program(text.length());
    }

    static HeatedCode coded(String text) {
        HeatedCode code = new HeatedCode();
        int functions = program(code, text);
        if (functions < 0) {
            is("program of " + text, functions, 1);
        }
        return code;
    }

    /** All that an object tells of itself but the FAULT and the refusals; of the NOTES the first and the last. */
    static String state(HeatedCode code) {
        StringBuilder text = new StringBuilder();
        for (int what = 0; what < 7; what++) {
            text.append(code.told(what)).append(' ');
        }
        for (int what = 0; what < 11; what++) {
            text.append(code.latest(what)).append(' ');
        }
        for (int k = 0; k < 3; k++) {
            text.append(code.given(k, 0)).append(' ').append(code.given(k, 1)).append(' ');
        }
        text.append(code.value()).append(' ');
        text.append(code.cost()).append(' ').append(code.costs()).append('|');
        for (int f = 0; f < code.told(0); f++) {
            for (int what = 0; what < 11; what++) {
                text.append(code.function(f, what)).append(' ');
            }
        }
        for (int place = 0; place < code.told(1); place++) {
            for (int what = 0; what < 8; what++) {
                text.append(code.place(place, what)).append(' ');
            }
        }
        return text.append(notes(code)).toString();
    }

    private static String notes(HeatedCode code) {
        int many = code.notes();
        StringBuilder text = new StringBuilder("|").append(many).append(' ');
        for (int k = 0; k < many; k += Math.max(1, many - 1)) {
            for (int what = 0; what < 5; what++) {
                text.append(code.note(k, what)).append(' ');
            }
            for (int v = 0; v < 8; v++) {
                text.append(code.kind(k, v)).append(' ').append(code.number(k, v)).append(' ');
            }
        }
        return text.toString();
    }

    /** The NUMBER of a WORD, letter by letter. */
    static long word(String letters) {
        long number = 0;
        for (int k = 0; k < letters.length(); k++) {
            number = 32 * number + (letters.charAt(k) - 96);
        }
        return number;
    }

    /** To be called at the end of each test: ends with exit code 1, if anything was wrong. */
    static void end(String test) {
        System.out.println(test + ": " + right + " answers as due, " + wrong + " not");
        if (wrong > 0) {
            System.exit(1);
        }
    }
}
