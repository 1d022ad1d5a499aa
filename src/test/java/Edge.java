import java.io.IOException;
import java.nio.charset.StandardCharsets;
import java.nio.file.Files;
import java.nio.file.Path;
import java.nio.file.Paths;

/** Sentences of the document that name boundary cases: each is told by its own words, with the test that is its own. */
final class Edge {
    private static final String DOCUMENT = document();
    private static final char MARK = '^';
    private static int sentences = 0;

    private Edge() {
    }

    /** The words have to stand in the document, so that a sentence that is changed there is found here. */
    static void of(String sentence, Runnable test) {
        sentences++;
        int wrong = Due.wrong();
        int answers = Due.answers();
        try {
            test.run();
        } catch (RuntimeException e) {
            Due.is("a call that threw " + e, 1, 0);
        }
        Due.is("answers that are asked for", Due.answers() > answers ? 1 : 0, 1);
        Due.is("stands in the document", stands(sentence) ? 1 : 0, 1);
        if (Due.wrong() > wrong) {
            System.out.println("  broken is: " + sentence);
        }
    }

    static void end(String test) {
        System.out.println(test + ": " + sentences + " sentences");
        Due.end(test);
    }

    private static boolean stands(String sentence) {
        return DOCUMENT.isEmpty() || DOCUMENT.contains(inOneLine(sentence));
    }

    private static String inOneLine(String text) {
        return text.replaceAll("\\s+", " ").strip();
    }

    private static String document() {
        Path path = Paths.get(System.getProperty("document", "../shared/DOC.md"));
        if (!Files.isReadable(path)) {
            return "";
        }
        try {
            return inOneLine(Files.readString(path, StandardCharsets.UTF_8));
        } catch (IOException e) {
            return "";
        }
    }

    // ---- texts

    static String many(String bit, int times) {
        return bit.repeat(times);
    }

    static HeatedCode good(String text, int functions) {
        HeatedCode code = new HeatedCode();
        Due.is(text, Due.program(code, text), functions);
        Due.is("fault of " + text, code.fault(), -1);
        return code;
    }

    /** The mark stands ahead of the byte at which the FAULT is; it is no part of the text. */
    static void bad(int fault, String marked) {
        int at = marked.indexOf(MARK);
        String text = marked.substring(0, at) + marked.substring(at + 1);
        HeatedCode code = new HeatedCode();
        Due.is(marked, Due.program(code, text), fault - 10);
        Due.is("place of the FAULT of " + marked, code.fault(), at);
    }

    /** A RUN of FUNCTION 0, that has a VALUE. */
    static void value(String text, int kind, long number) {
        HeatedCode code = Due.coded(text);
        Due.is("run of " + text, code.run(0), 0);
        Due.is("kind of " + text, code.latest(1), kind);
        Due.is("value of " + text, code.value(), number);
    }

    /** Refused by one of the exceptions: counted once, and all stays as it was. */
    static void refused(String what, HeatedCode code, Due.Call call, long exception) {
        String before = code.fault() + " " + Due.state(code);
        long elements = code.status(0);
        long arguments = code.status(1);
        Due.is(what, call, exception);
        Due.is(what + " counted", code.status(0), elements + (exception == Due.NO_ELEMENT ? 1 : 0));
        Due.is(what + " counted", code.status(1), arguments + (exception == Due.NO_ARGUMENT ? 1 : 0));
        String after = code.fault() + " " + Due.state(code);
        Due.is(what + " changes nothing", after.equals(before) ? 1 : 0, 1);
    }
}
