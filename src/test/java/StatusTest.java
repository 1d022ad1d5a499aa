/** Promise 35: how many calls were refused. */
public final class StatusTest {
    private StatusTest() {
    }

    public static void main(String[] args) {
        HeatedCode code = new HeatedCode();
        Due.is("none", code.status(0), 0);
        Due.is("none", code.status(1), 0);
        Due.is("others", code.status(2), -1);
        Due.is("others", code.status(-1), -1);
        Due.noElement("run", () -> code.run(0));
        Due.noArgument("told", () -> code.told(9));
        Due.noElement("both: the first alone counts", () -> code.runs(0, 99));
        Due.is("elements", code.status(0), 2);
        Due.is("arguments", code.status(1), 1);
        Due.is("a FAULT is no refusal", Due.program(code, "fan"), -9);
        for (int k = 0; k < 31; k++) {
            code.feed(0, 0, 0, 0, 0);
        }
        Due.is("elements", code.status(0), 2);
        Due.is("arguments", code.status(1), 1);
        code.program(0);
        code.clear();
        Due.is("nothing empties it", code.status(0), 2);
        Due.is("nothing empties it", code.status(1), 1);
        Due.noArgument("program", () -> code.program(1));
        Due.is("arguments", code.status(1), 2);
        Due.noElement("place", () -> code.place(0, 0));
        Due.is("elements", code.status(0), 3);
        Due.noElement("note", () -> code.note(0, 0));
        Due.is("elements", code.status(0), 4);
        Due.noArgument("give", () -> Due.give(code, 9, 0, 0));
        Due.is("arguments", code.status(1), 3);
        Due.end("StatusTest");
    }
}
