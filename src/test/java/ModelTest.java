import java.util.Random;

/** Many made-up PROGRAMS and calls, each answer held against the Model's (promises 1 to 35, all but feed's edges). */
public final class ModelTest {
    private static final int OBJECTS = Integer.getInteger("objects", 1500);
    private static final int MOST_CALLS = 512;

    private final Random random;
    private final HeatedCode code = new HeatedCode();
    private final Model model = new Model();
    private String log = "";
    private int calls = 0;
    private int refusedElements = 0;
    private int refusedArguments = 0;

    private ModelTest(long seed) {
        random = new Random(seed);
    }

    public static void main(String[] args) {
        for (int k = 0; k < OBJECTS; k++) {
            new ModelTest(k).go();
        }
        Due.end("ModelTest");
    }

    private int below(int n) {
        return random.nextInt(n);
    }

    private boolean oneIn(int n) {
        return below(n) == 0;
    }

    /** What an object answers behind its last call is free: it isn't asked then. */
    private boolean isUsedUp(int more) {
        return calls + more > MOST_CALLS;
    }

    private void due(String call, Due.Call got, long due) {
        if (isUsedUp(1)) {
            return;
        }
        calls++;
        long answer = Due.of(got);
        if (answer == Due.NO_ELEMENT) {
            refusedElements++;
        }
        if (answer == Due.NO_ARGUMENT) {
            refusedArguments++;
        }
        if (answer != due) {
            System.out.println(log);
        }
        Due.is(call, answer, due);
    }

    private void go() {
        for (int k = 0; k < 3; k++) {
            giveIt(k, new Model.Value(1, below(9)));
        }
        for (int k = 0; k < MOST_CALLS && !isUsedUp(1); k++) {
            if (k == 0 || oneIn(25)) {
                newProgram();
            } else {
                change();
            }
            ask();
            ask();
            ask();
            if (oneIn(5)) {
                askSome();
            }
        }
    }

    private void newProgram() {
        String text = new Texts(random).made();
        if (oneIn(5)) {
            text = spoilt(text);
        }
        if (text.length() > 600) {
            text = text.substring(0, 600);
        }
        log += "program " + text + "\n";
        // a told and so many feeds
        int laid = 1 + (text.length() + 19) / 20;
        if (isUsedUp(laid)) {
            calls = MOST_CALLS;
            return;
        }
        calls += laid;
        Due.lay(code, text);
        String all = text;
        due("program", () -> code.program(all.length()), model.program(all));
        due("fault", () -> code.fault(), model.fault);
        due("told(6)", () -> code.told(6), 0);
    }

    private String spoilt(String text) {
        StringBuilder spoilt = new StringBuilder(text);
        String bits = "{}()',;=<+ 0123zab%ifelsewhile\n9{((";
        for (int k = 0; k <= below(3) && spoilt.length() > 0; k++) {
            int at = below(spoilt.length());
            int way = below(4);
            if (way == 0) {
                spoilt.deleteCharAt(at);
            } else if (way == 1) {
                spoilt.insert(at, bits.charAt(below(bits.length())));
            } else if (way == 2) {
                spoilt.setCharAt(at, bits.charAt(below(bits.length())));
            } else {
                spoilt.setLength(at);
            }
        }
        return spoilt.toString();
    }

    private int someFunction() {
        return below(20) == 0 ? below(8) - 2 : below(Math.max(1, model.parsed.functions.size()));
    }

    private int somePlace() {
        return below(20) == 0 ? below(50) - 4 : below(Math.max(1, model.parsed.places.size()));
    }

    private boolean isFunction(int f) {
        return f >= 0 && f < model.parsed.functions.size();
    }

    private boolean isPlace(int p) {
        return p >= 0 && p < model.parsed.places.size();
    }

    private void change() {
        int which = below(12);
        int f = someFunction();
        if (which < 5) {
            log += "run " + f + "\n";
            due("run", () -> code.run(f), isFunction(f) ? model.run(f).outcome : Due.NO_ELEMENT);
        } else if (which == 5) {
            int many = oneIn(9) ? below(40) - 4 : 1 + below(5);
            log += "runs " + f + " " + many + "\n";
            due("runs", () -> code.runs(f, many), runs(f, many));
        } else if (which < 8) {
            give();
        } else if (which == 8) {
            int heat = oneIn(8) ? below(120) - 10 : 1 + below(5) * below(2);
            log += "glow " + heat + "\n";
            due("glow", () -> code.glow(heat), heat < 1 || heat > 99 ? Due.NO_ARGUMENT : model.glow);
            model.glow = heat < 1 || heat > 99 ? model.glow : heat;
        } else if (which == 9) {
            int exits = oneIn(3) ? below(12) : 1 + below(2);
            log += "patience " + exits + "\n";
            due("patience", () -> code.patience(exits), exits < 1 || exits > 9 ? Due.NO_ARGUMENT : model.patience);
            model.patience = exits < 1 || exits > 9 ? model.patience : exits;
        } else if (which == 10) {
            coolOrForget(f);
        } else if (oneIn(3)) {
            log += "clear\n";
            due("clear", () -> code.clear(), model.clear());
        }
    }

    private void coolOrForget(int f) {
        if (oneIn(2)) {
            log += "cool " + f + "\n";
            due("cool", () -> code.cool(f), !isFunction(f) ? Due.NO_ELEMENT : model.cool(f) ? 1 : 0);
        } else {
            int p = somePlace();
            log += "forget " + p + "\n";
            due("forget", () -> code.forget(p), isPlace(p) ? model.forget(p) : Due.NO_ELEMENT);
        }
    }

    private long runs(int f, int many) {
        if (!isFunction(f)) {
            return Due.NO_ELEMENT;
        }
        if (many < 1 || many > 30) {
            return Due.NO_ARGUMENT;
        }
        int had = 0;
        for (int k = 0; k < many; k++) {
            had += model.run(f).outcome == 0 ? 1 : 0;
        }
        return had;
    }

    private void give() {
        giveIt(below(3), someValue());
    }

    private void giveIt(int k, Model.Value value) {
        log += "give " + k + " " + value.kind + " " + value.number + "\n";
        due("give", () -> Due.give(code, k, value.kind, value.number), 0);
        model.given[k] = value;
        due("given", () -> code.given(k, 0), value.number);
        due("given", () -> code.given(k, 1), value.kind);
    }

    private Model.Value someValue() {
        int kind = below(10);
        if (kind == 0 && oneIn(3)) {
            return Model.Value.NONE;
        }
        if (kind < 6) {
            return new Model.Value(1, oneIn(9) ? random.nextInt() : below(12) - 1);
        }
        if (kind < 9) {
            return new Model.Value(2, oneIn(9) ? random.nextLong() : below(12) - 2);
        }
        StringBuilder word = new StringBuilder();
        for (int n = below(7); n > 0; n--) {
            word.append((char) ('a' + (oneIn(2) ? below(2) : below(26))));
        }
        return Model.Value.word(word.toString());
    }

    // ---- asked

    private long unless(boolean element, boolean argument, Due.Call due) {
        return !element ? Due.NO_ELEMENT : !argument ? Due.NO_ARGUMENT : due.ask();
    }

    private void ask() {
        int f = someFunction();
        int p = somePlace();
        int which = below(12);
        if (which == 0) {
            int what = below(8) - 1;
            due("plain " + f + " " + what, () -> code.plain(f, what),
                unless(isFunction(f), what >= 0 && what < 6, () -> plain(f, what)));
        } else if (which == 1) {
            due("plainly " + f, () -> code.plainly(f),
                unless(isFunction(f), true, () -> model.plain(f).value.number));
        } else if (which == 2) {
            due("often", () -> code.often(f, p),
                unless(isFunction(f) && isPlace(p), true, () -> model.plain(f).done.getOrDefault(p, 0)));
            due("pairs", () -> code.pairs(f, p),
                unless(isFunction(f) && isPlace(p), true, () -> model.plainPairs(f, p)));
        } else if (which < 6) {
            int many = oneIn(9) ? below(40) - 4 : 1 + below(30);
            int what = below(7) - 1;
            due("ahead " + f + " " + many + " " + what, () -> code.ahead(f, many, what),
                unless(isFunction(f), many > 0 && many <= 30 && what >= 0 && what < 5, () -> ahead(f, many, what)));
        } else if (which == 6) {
            due("pays " + f, () -> code.pays(f), unless(isFunction(f), true, () -> pays(f)));
        } else if (which == 7 && oneIn(2)) {
            int many = below(10);
            int what = below(4) - 1;
            boolean fits = many > 0 && many <= 8 && what >= 0 && what < 2;
            due("tune " + f + " " + many + " " + what, () -> code.tune(f, many, what),
                unless(isFunction(f), fits, () -> best(f, many, what, true)));
            due("bear " + f + " " + many + " " + what, () -> code.bear(f, many, what),
                unless(isFunction(f), fits, () -> best(f, many, what, false)));
        } else if (which == 8) {
            int many = oneIn(9) ? below(40) - 4 : 1 + below(30);
            int what = below(4) - 1;
            due("sorest " + f + " " + many + " " + what, () -> code.sorest(f, many, what),
                unless(isFunction(f), many > 0 && many <= 30 && what >= 0 && what < 2, () -> sorest(f, many, what)));
        } else if (which > 8) {
            due("until " + f, () -> code.until(f), unless(isFunction(f), true, () -> until(f)));
        }
    }

    private long plain(int f, int what) {
        Model.Result r = model.plain(f);
        long[] all = {r.outcome, r.value.kind, r.steps, r.stuck, r.most, r.cost};
        return all[what];
    }

    private long ahead(int f, int many, int what) {
        Model m = model.other(false);
        long[] all = new long[5];
        for (int k = 1; k <= many; k++) {
            Model.Result r = m.run(f);
            all[0] += r.cost;
            all[1] += r.exits;
            all[2] += r.made;
            all[3] = r.moved() ? k : all[3];
            all[4] += r.hotSteps;
        }
        return all[what];
    }

    private long pays(int f) {
        long plain = model.plain(f).cost;
        Model m = model.other(true);
        for (int k = 1; k <= 30; k++) {
            m.run(f);
            if (m.costs < k * plain) {
                return k;
            }
        }
        return -1;
    }

    private long best(int f, int many, int what, boolean glow) {
        long best = 0;
        long least = Long.MAX_VALUE;
        for (int k = 1; k <= (glow ? 24 : 9); k++) {
            Model m = model.other(true);
            m.glow = glow ? k : m.glow;
            m.patience = glow ? m.patience : k;
            for (int n = 0; n < many; n++) {
                m.run(f);
            }
            if (m.costs < least) {
                least = m.costs;
                best = k;
            }
        }
        return what == 0 ? best : least;
    }

    private long sorest(int f, int many, int what) {
        Model m = model.other(false);
        for (int n = 0; n < many; n++) {
            m.run(f);
        }
        long most = 0;
        long place = -1;
        for (int p = 0; p < 40; p++) {
            if (m.exits[p] - model.exits[p] > most) {
                most = m.exits[p] - model.exits[p];
                place = p;
            }
        }
        return what == 0 ? place : most;
    }

    private long until(int f) {
        Model.Result r = model.other(false).run(f);
        return r.notes.isEmpty() ? r.steps : r.notes.get(0).steps;
    }

    // ---- told

    private void askSome() {
        int hot = 0;
        for (int f = 0; f < 4; f++) {
            hot |= model.hot[f] != null ? 1 << f : 0;
        }
        long[] told = {model.parsed.functions.size(), model.parsed.places.size(), model.glow, model.patience,
            model.runs, hot, 0};
        askRow("told", told, what -> code.told(what));
        Model.Result r = model.latest;
        long[] none = {-1, -1, -1, -1, -1, -1, -1, -1, -1, -1, -1};
        askRow("latest", r == null ? none : new long[] {r.outcome, r.value.kind, r.steps, r.hotSteps, r.stuck,
            r.exits, r.left, r.entered, r.made, r.frames, r.most}, what -> code.latest(what));
        due("value", () -> code.value(), r == null ? 0 : r.value.number);
        due("cost", () -> code.cost(), r == null ? 0 : r.cost);
        due("costs", () -> code.costs(), model.costs);
        for (int f = 0; f < model.parsed.functions.size(); f++) {
            askFunction(f);
        }
        for (int k = 0; k < 5 && !model.parsed.places.isEmpty(); k++) {
            askPlace(below(model.parsed.places.size()));
        }
        askNotes(r);
        due("status(0)", () -> code.status(0), refusedElements);
        due("status(1)", () -> code.status(1), refusedArguments);
    }

    private interface Row {
        long ask(int what);
    }

    /** Three of a row, now and then one beyond it. */
    private void askRow(String call, long[] dues, Row row) {
        for (int k = 0; k < 3; k++) {
            int what = oneIn(12) ? below(2) * (dues.length + 1) - 1 : below(dues.length);
            boolean is = what >= 0 && what < dues.length;
            due(call + " " + what, () -> row.ask(what), is ? dues[what] : Due.NO_ARGUMENT);
        }
    }

    private void askFunction(int f) {
        Model.Function is = model.parsed.functions.get(f);
        int[] c = model.counts[f];
        long[] dues = {is.parameters, model.heat[f], model.hot[f] != null ? 1 : 0, c[3], c[4], c[5], c[6], c[7],
            is.many == 0 ? -1 : is.first, is.many, is.calls};
        askRow("function " + f, dues, what -> code.function(f, what));
    }

    private void askPlace(int p) {
        int[] is = model.parsed.places.get(p);
        Model.Hot hot = model.hot[is[0]];
        long[] dues = {is[0], is[1], model.seen[p], Integer.bitCount(model.seen[p]), model.open[p] ? 1 : 0,
            model.exits[p], hot == null ? -1 : hot.guesses.get(p), model.guessNow(p)};
        askRow("place " + p, dues, what -> code.place(p, what));
    }

    private void askNotes(Model.Result r) {
        int many = r == null ? 0 : Math.min(16, r.notes.size());
        due("notes", () -> code.notes(), many);
        due("note", () -> code.note(many, 9), Due.NO_ELEMENT);
        due("kind", () -> code.kind(-1, 9), Due.NO_ELEMENT);
        due("number", () -> code.number(many, 9), Due.NO_ELEMENT);
        for (int n = 0; n < 2 && many > 0; n++) {
            int k = below(many);
            Model.Note note = r.notes.get(k);
            askRow("note " + k, new long[] {note.function, note.place, note.steps, note.frames, note.pair},
                what -> code.note(k, what));
            long[] kinds = new long[8];
            long[] numbers = new long[8];
            for (int v = 0; v < 8; v++) {
                kinds[v] = note.variables[v].kind;
                numbers[v] = note.variables[v].number;
            }
            askRow("kind " + k, kinds, v -> code.kind(k, v));
            askRow("number " + k, numbers, v -> code.number(k, v));
        }
    }

    /** Makes up texts of PROGRAMS, most of them good ones. */
    private static final class Texts {
        private final Random random;
        private final StringBuilder text = new StringBuilder();
        private int functions;
        private int braces;
        private int brackets;
        private int places;
        private int mostPlaces;

        Texts(Random random) {
            this.random = random;
        }

        private int below(int n) {
            return random.nextInt(n);
        }

        String made() {
            functions = 1 + below(4);
            // now and then more than there may be
            int allPlaces = below(12) == 0 ? 60 : 36;
            for (int f = 0; f < functions; f++) {
                mostPlaces = places + (allPlaces - places) / (functions - f);
                put("fun ");
                put(Integer.toString(below(5) == 0 ? below(4) : 1 + below(3)));
                int most = text.length() + (600 - text.length()) / (functions - f) - 50;
                put("{");
                braces++;
                begin();
                for (int k = below(5); k >= 0 && text.length() < most; k--) {
                    statement(most);
                }
                if (below(6) > 0) {
                    put("return ");
                    a(most);
                    put(";");
                }
                braces--;
                put("}");
                blank();
            }
            return text.toString();
        }

        /** So that most FUNCTIONS have numbers to go on with, and an end. */
        private void begin() {
            if (below(2) == 0) {
                places += 2;
                put("if a<1{return " + (below(3) == 0 ? "b" : Integer.toString(below(5))) + ";}");
            }
            if (below(3) > 0) {
                put("b=" + below(9) + ";");
            }
            if (below(3) > 0) {
                put("c=" + (below(4) == 0 ? "9999999999" : "a") + ";");
            }
        }

        private void put(String bit) {
            text.append(bit);
        }

        private void blank() {
            if (below(12) == 0) {
                put(" ");
            }
        }

        private void block(int statements, int most) {
            blank();
            put("{");
            braces++;
            for (int k = 0; k < statements && text.length() < most; k++) {
                statement(most);
            }
            braces--;
            put("}");
        }

        private void letter() {
            put(Character.toString((char) ('a' + (below(30) == 0 ? below(8) : below(3)))));
        }

        private boolean isFull() {
            return places + 4 > mostPlaces;
        }

        private void statement(int most) {
            int which = below(10);
            if (which < 5 || braces > 5 || isFull()) {
                blank();
                letter();
                put("=");
                e(most);
                put(";");
            } else if (which < 7 && below(2) == 0) {
                char counted = (char) ('a' + below(3));
                places += 3;
                put("while 0<" + counted + "{");
                braces++;
                for (int k = below(3); k >= 0; k--) {
                    statement(most);
                }
                braces--;
                put(counted + "=" + counted + "-1;}");
            } else if (which < 7) {
                places++;
                put("while ");
                condition(most);
                block(1 + below(3), most);
            } else if (which < 9) {
                places++;
                put("if ");
                condition(most);
                block(1 + below(2), most);
                if (below(2) == 0) {
                    put("else");
                    block(below(3), most);
                }
            } else if (below(4) == 0) {
                put("return ");
                e(most);
                put(";");
            }
        }

        private void condition(int most) {
            if (below(3) == 0) {
                e(most);
                return;
            }
            letter();
            places++;
            put(below(4) == 0 ? "=" : "<");
            m(most);
        }

        private void e(int most) {
            a(most);
            if (below(9) == 0 && !isFull()) {
                places++;
                put(below(2) == 0 ? "<" : "=");
                a(most);
            }
        }

        private void a(int most) {
            m(most);
            for (int k = below(4) / 2; k > 0 && !isFull(); k--) {
                blank();
                places++;
                put(below(3) == 0 ? "-" : "+");
                m(most);
            }
        }

        private void m(int most) {
            unit(most);
            for (int k = below(8) / 6; k > 0 && !isFull(); k--) {
                places++;
                put("*/%************".substring(below(15)).substring(0, 1));
                unit(most);
            }
        }

        private void unit(int most) {
            int which = below(28);
            blank();
            if (which < 11 || text.length() >= most) {
                letter();
            } else if (which < 21) {
                put(below(9) == 0 ? Long.toString(random.nextLong() >>> 24) : Integer.toString(below(9)));
            } else if (which == 21 && below(8) == 0) {
                put(below(3) == 0 ? "none" : "''");
            } else if (which == 21 && below(6) == 0) {
                put("'" + "abcdef".substring(below(6)) + "'");
            } else if (which < 24) {
                bracket(most);
            } else {
                call(most);
            }
        }

        private void bracket(int most) {
            if (brackets > 5) {
                letter();
                return;
            }
            put("(");
            brackets++;
            e(most);
            brackets--;
            put(")");
        }

        private void call(int most) {
            if (brackets > 5) {
                letter();
                return;
            }
            put("call " + below(functions));
            blank();
            put("(");
            brackets++;
            int many = below(6) == 0 ? 0 : 1 + below(3);
            for (int k = 0; k < many; k++) {
                if (k == 0 && below(8) > 0 && !isFull()) {
                    places++;
                    put("a-1");
                } else {
                    e(most);
                }
                put(k + 1 < many ? "," : "");
            }
            brackets--;
            put(")");
        }
    }
}
