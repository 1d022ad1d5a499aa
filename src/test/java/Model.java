import java.util.ArrayList;
import java.util.HashMap;
import java.util.List;
import java.util.Map;
import java.util.TreeMap;

/**
 * The document's rules a second time, walked over a tree by recursion, slow and plain: what HeatedCode answers is held
 * against it. It shares nothing with HeatedCode but the document.
 */
final class Model {
    static final int SIGNS_FROM_WHILE = 7;

    // ---- the tree

    static final class Text extends RuntimeException {
        private static final long serialVersionUID = 1;
        final int fault;
        final int at;

        Text(int fault, int at) {
            super(null, null, false, false);
            this.fault = fault;
            this.at = at;
        }
    }

    static final class End extends RuntimeException {
        private static final long serialVersionUID = 1;
        final int outcome;
        final int place;

        End(int outcome, int place) {
            super(null, null, false, false);
            this.outcome = outcome;
            this.place = place;
        }
    }

    static final class Value {
        static final Value NONE = new Value(0, 0);
        final int kind;
        final long number;

        Value(int kind, long number) {
            this.kind = kind;
            this.number = number;
        }

        boolean isNumber() {
            return kind == 1 || kind == 2;
        }

        String letters() {
            StringBuilder text = new StringBuilder();
            for (long rest = number; rest > 0; rest /= 32) {
                text.append((char) (96 + rest % 32));
            }
            return text.reverse().toString();
        }

        static Value word(String letters) {
            long number = 0;
            for (char c : letters.toCharArray()) {
                number = number * 32 + (c - 96);
            }
            return new Value(3, number);
        }

        static Value truth(boolean is) {
            return new Value(1, is ? 1 : 0);
        }
    }

    /** One part of the tree, by what it is: a sign's character, v, n, c, and for STATEMENTS s, w, i, r. */
    static final class Node {
        final char what;
        int place = -1;
        int index;
        Value value;
        final List<Node> parts = new ArrayList<>();
        List<Node> body = new ArrayList<>();
        List<Node> other = new ArrayList<>();

        Node(char what) {
            this.what = what;
        }
    }

    static final class Function {
        int parameters;
        int first;
        int many;
        int calls;
        List<Node> body = new ArrayList<>();
    }

    static final class Parsed {
        final List<Function> functions = new ArrayList<>();
        final List<int[]> places = new ArrayList<>();
    }

    // ---- the parser: tokens by one look ahead, faults thrown

    static final class Parser {
        final String text;
        int at = 0;
        int braces = 0;
        int brackets = 0;
        final Parsed parsed = new Parsed();
        final TreeMap<Integer, Integer> called = new TreeMap<>();

        Parser(String text) {
            this.text = text;
        }

        String token() {
            while (at < text.length() && text.charAt(at) == ' ') {
                at++;
            }
            int end = at;
            if (end >= text.length()) {
                return "";
            }
            if (small(end)) {
                while (small(end)) {
                    end++;
                }
            } else if (digit(end)) {
                while (digit(end)) {
                    end++;
                }
            } else {
                end++;
            }
            return text.substring(at, end);
        }

        boolean small(int k) {
            return k < text.length() && text.charAt(k) >= 'a' && text.charAt(k) <= 'z';
        }

        boolean digit(int k) {
            return k < text.length() && text.charAt(k) >= '0' && text.charAt(k) <= '9';
        }

        boolean next(String due) {
            return token().equals(due);
        }

        void want(String due) {
            if (!next(due)) {
                throw new Text(1, at);
            }
            at += due.length();
        }

        long number(long most) {
            String digits = token();
            if (digits.isEmpty() || !digit(at)) {
                throw new Text(1, at);
            }
            if (new java.math.BigInteger(digits).compareTo(java.math.BigInteger.valueOf(most)) > 0) {
                throw new Text(2, at);
            }
            at += digits.length();
            return Long.parseLong(digits);
        }

        Parsed all() {
            while (!next("")) {
                if (next("fun") && parsed.functions.size() == 4) {
                    throw new Text(3, at);
                }
                want("fun");
                Function f = new Function();
                f.first = parsed.places.size();
                parsed.functions.add(f);
                f.parameters = (int) number(3);
                f.body = block();
                f.many = parsed.places.size() - f.first;
            }
            for (Map.Entry<Integer, Integer> call : called.entrySet()) {
                if (call.getValue() >= parsed.functions.size()) {
                    throw new Text(4, call.getKey());
                }
            }
            return parsed;
        }

        List<Node> block() {
            if (next("{") && braces == 6) {
                throw new Text(3, at);
            }
            want("{");
            braces++;
            List<Node> all = new ArrayList<>();
            while (!next("}")) {
                all.add(statement());
            }
            want("}");
            braces--;
            return all;
        }

        int place(int which) {
            token();
            if (parsed.places.size() == 40) {
                throw new Text(3, at);
            }
            parsed.places.add(new int[] {parsed.functions.size() - 1, which});
            return parsed.places.size() - 1;
        }

        Node statement() {
            Node node;
            if (next("while") || next("if")) {
                boolean loop = next("while");
                node = new Node(loop ? 'w' : 'i');
                node.place = place(loop ? SIGNS_FROM_WHILE : SIGNS_FROM_WHILE + 1);
                want(token());
                node.parts.add(whole());
                node.body = block();
                if (!loop && next("else")) {
                    want("else");
                    node.other = block();
                }
                return node;
            }
            if (next("return")) {
                node = new Node('r');
                want("return");
            } else {
                node = new Node('s');
                node.index = variable();
                want("=");
            }
            node.parts.add(whole());
            want(";");
            return node;
        }

        int variable() {
            String name = token();
            if (name.length() != 1 || name.charAt(0) < 'a' || name.charAt(0) > 'h') {
                throw new Text(1, at);
            }
            at++;
            return name.charAt(0) - 'a';
        }

        Node whole() {
            Node left = sum();
            return next("<") || next("=") ? sign(left, 0) : left;
        }

        Node sum() {
            Node left = product();
            while (next("+") || next("-")) {
                left = sign(left, 1);
            }
            return left;
        }

        Node product() {
            Node left = unit();
            while (next("*") || next("/") || next("%")) {
                left = sign(left, 2);
            }
            return left;
        }

        Node sign(Node left, int level) {
            Node node = new Node(token().charAt(0));
            node.place = place("+-*/%<=".indexOf(node.what));
            at++;
            node.parts.add(left);
            node.parts.add(level == 0 ? sum() : level == 1 ? product() : unit());
            return node;
        }

        void bracket() {
            if (next("(") && brackets == 6) {
                throw new Text(3, at);
            }
            want("(");
            brackets++;
        }

        Node unit() {
            String token = token();
            if (!token.isEmpty() && digit(at)) {
                long n = number(999999999999L);
                return constant(new Value(n > 2147483647L ? 2 : 1, n));
            }
            if (token.equals("'")) {
                return quoted();
            }
            if (token.equals("(")) {
                bracket();
                Node inner = whole();
                want(")");
                brackets--;
                return inner;
            }
            if (token.equals("none")) {
                want("none");
                return constant(Value.NONE);
            }
            if (token.equals("call")) {
                return call();
            }
            Node node = new Node('v');
            node.index = variable();
            return node;
        }

        Node constant(Value value) {
            Node node = new Node('n');
            node.value = value;
            return node;
        }

        Node quoted() {
            int first = at + 1;
            int end = first;
            while (small(end) && end - first < 6) {
                end++;
            }
            if (end >= text.length() || text.charAt(end) != '\'') {
                throw new Text(1, end);
            }
            at = end + 1;
            return constant(Value.word(text.substring(first, end)));
        }

        Node call() {
            want("call");
            token();
            Node node = new Node('c');
            int where = at;
            node.index = (int) number(3);
            called.put(where, node.index);
            parsed.functions.get(parsed.functions.size() - 1).calls |= 1 << node.index;
            bracket();
            if (!next(")")) {
                node.parts.add(whole());
                while (next(",")) {
                    if (node.parts.size() == 3) {
                        throw new Text(3, at);
                    }
                    want(",");
                    node.parts.add(whole());
                }
            }
            want(")");
            brackets--;
            return node;
        }
    }

    // ---- what is learnt

    /** HOT CODE: the guesses of its PLACES. That it is another one than any ahead is that it is another object. */
    static final class Hot {
        final Map<Integer, Integer> guesses = new HashMap<>();
    }

    static final class Frame {
        final int function;
        final Value[] variables = new Value[8];
        Hot hot = null;

        Frame(int function) {
            this.function = function;
            java.util.Arrays.fill(variables, Value.NONE);
        }
    }

    static final class Note {
        int function;
        int place;
        int steps;
        int frames;
        int pair;
        Value[] variables;
    }

    static final class Result {
        int outcome;
        Value value = Value.NONE;
        int steps;
        int hotSteps;
        int stuck = -1;
        int exits;
        int left;
        int entered;
        int made;
        int frames;
        int most;
        int cost;
        final List<Note> notes = new ArrayList<>();
        final Map<Integer, Integer> done = new HashMap<>();

        boolean moved() {
            return exits + left + entered + made > 0;
        }
    }

    Parsed parsed = new Parsed();
    int fault = -1;
    final Value[] given = {Value.NONE, Value.NONE, Value.NONE};
    int glow = 10;
    int patience = 3;
    boolean neverHot = false;
    int runs = 0;
    long costs = 0;
    Result latest = null;
    int[] heat = new int[4];
    Hot[] hot = new Hot[4];
    int[][] counts = new int[4][8];
    int[] seen = new int[40];
    boolean[] open = new boolean[40];
    int[] exits = new int[40];

    int program(String text) {
        try {
            Parsed read = new Parser(text).all();
            fault = -1;
            parsed = read;
            clear();
            return read.functions.size();
        } catch (Text wrong) {
            fault = wrong.at;
            return wrong.fault - 10;
        }
    }

    int clear() {
        int before = runs;
        runs = 0;
        costs = 0;
        latest = null;
        heat = new int[4];
        hot = new Hot[4];
        counts = new int[4][8];
        seen = new int[40];
        open = new boolean[40];
        exits = new int[40];
        return before;
    }

    /** All of it anew, so that what is tried on it leaves this one as it was. */
    Model other(boolean fresh) {
        Model m = new Model();
        m.parsed = parsed;
        System.arraycopy(given, 0, m.given, 0, 3);
        m.glow = glow;
        m.patience = patience;
        if (!fresh) {
            m.heat = heat.clone();
            m.hot = hot.clone();
            m.seen = seen.clone();
            m.open = open.clone();
            m.exits = exits.clone();
        }
        return m;
    }

    Result plain(int function) {
        Model m = other(true);
        m.neverHot = true;
        return m.run(function);
    }

    int plainPairs(int function, int place) {
        Model m = other(true);
        m.neverHot = true;
        m.run(function);
        return m.seen[place];
    }

    boolean cool(int function) {
        boolean had = hot[function] != null;
        hot[function] = null;
        heat[function] = 0;
        return had;
    }

    int forget(int place) {
        int had = seen[place];
        seen[place] = 0;
        open[place] = false;
        exits[place] = 0;
        cool(parsed.places.get(place)[0]);
        return had;
    }

    int guessNow(int place) {
        int many = Integer.bitCount(seen[place]);
        if (open[place] || many > 1) {
            return -2;
        }
        return many == 0 ? -3 : 31 - Integer.numberOfLeadingZeros(seen[place]);
    }

    // ---- a RUN

    private Result now;
    private final List<Frame> frames = new ArrayList<>();

    Result run(int function) {
        now = new Result();
        frames.clear();
        try {
            List<Value> all = new ArrayList<>();
            for (Value v : given) {
                all.add(v);
            }
            now.value = called(function, all);
            now.outcome = 0;
        } catch (End end) {
            now.outcome = end.outcome;
            now.stuck = end.place;
        }
        runs++;
        costs += now.cost;
        latest = now;
        return now;
    }

    private Frame top() {
        return frames.get(frames.size() - 1);
    }

    private void comes() {
        if (now.steps == 2000) {
            throw new End(2, -1);
        }
    }

    private void step() {
        now.steps++;
        boolean isHot = top().hot != null;
        now.hotSteps += isHot ? 1 : 0;
        now.cost += isHot ? 1 : 5;
    }

    private void heatUp(int function) {
        if (hot[function] != null) {
            return;
        }
        heat[function]++;
        if (neverHot || heat[function] < glow) {
            return;
        }
        Function f = parsed.functions.get(function);
        Hot code = new Hot();
        for (int place = f.first; place < f.first + f.many; place++) {
            code.guesses.put(place, guessNow(place));
        }
        hot[function] = code;
        now.made++;
        counts[function][3]++;
        now.cost += 10 + 3 * f.many;
    }

    private Value called(int function, List<Value> with) {
        if (frames.size() == 8) {
            throw new End(1, -1);
        }
        Function f = parsed.functions.get(function);
        Frame frame = new Frame(function);
        for (int k = 0; k < f.parameters && k < with.size(); k++) {
            frame.variables[k] = with.get(k);
        }
        frames.add(frame);
        now.frames++;
        now.most = Math.max(now.most, frames.size());
        counts[function][7]++;
        heatUp(function);
        frame.hot = hot[function];
        Value back = statements(f.body, frame);
        frames.remove(frames.size() - 1);
        return back == null ? Value.NONE : back;
    }

    /** What they return; null, if they come to their end. */
    private Value statements(List<Node> all, Frame frame) {
        for (Node node : all) {
            Value back = statement(node, frame);
            if (back != null) {
                return back;
            }
        }
        return null;
    }

    private Value statement(Node node, Frame frame) {
        if (node.what == 's') {
            Value value = value(node.parts.get(0), frame);
            comes();
            step();
            frame.variables[node.index] = value;
            return null;
        }
        if (node.what == 'r') {
            Value value = value(node.parts.get(0), frame);
            comes();
            step();
            return value;
        }
        if (node.what == 'i') {
            return statements(condition(node, frame) ? node.body : node.other, frame);
        }
        while (condition(node, frame)) {
            Value back = statements(node.body, frame);
            if (back != null) {
                return back;
            }
            if (frame.hot == null) {
                heatUp(frame.function);
                if (hot[frame.function] != null) {
                    frame.hot = hot[frame.function];
                    now.entered++;
                    counts[frame.function][4]++;
                    now.cost += 4;
                }
            }
        }
        return null;
    }

    private boolean condition(Node node, Frame frame) {
        Value value = value(node.parts.get(0), frame);
        comes();
        if (!value.isNumber()) {
            throw new End(1, node.place);
        }
        boolean is = value.number != 0;
        pair(node.place, is ? 1 : 0, frame);
        step();
        now.done.merge(node.place, 1, Integer::sum);
        return is;
    }

    private void pair(int place, int pair, Frame frame) {
        if (frame.hot != null) {
            int guess = frame.hot.guesses.get(place);
            if (guess == -2 || guess == pair) {
                return;
            }
            note(place, pair, frame);
            frame.hot = null;
            now.exits++;
            counts[frame.function][5]++;
            now.cost += 12;
            exits[place]++;
            if (exits[place] >= patience) {
                open[place] = true;
                cool(frame.function);
            }
        }
        seen[place] |= 1 << pair;
    }

    private void note(int place, int pair, Frame frame) {
        Note note = new Note();
        note.function = frame.function;
        note.place = place;
        note.steps = now.steps;
        note.frames = frames.size();
        note.pair = pair;
        note.variables = frame.variables.clone();
        now.notes.add(note);
    }

    private Value value(Node node, Frame frame) {
        if (node.what == 'n') {
            return node.value;
        }
        if (node.what == 'v') {
            return frame.variables[node.index];
        }
        if (node.what == 'c') {
            List<Value> with = new ArrayList<>();
            for (Node part : node.parts) {
                with.add(value(part, frame));
            }
            comes();
            step();
            Value back = called(node.index, with);
            if (frame.hot != null && frame.hot != hot[frame.function]) {
                note(-1, -1, frame);
                frame.hot = null;
                now.left++;
                counts[frame.function][6]++;
                now.cost += 6;
            }
            return back;
        }
        Value left = value(node.parts.get(0), frame);
        Value right = value(node.parts.get(1), frame);
        comes();
        pair(node.place, 4 * left.kind + right.kind, frame);
        Value out = done(node.what, left, right);
        if (out == null) {
            throw new End(1, node.place);
        }
        step();
        now.done.merge(node.place, 1, Integer::sum);
        return out;
    }

    /** What comes out; null, if it is STUCK. */
    static Value done(char sign, Value left, Value right) {
        if (left.isNumber() && right.isNumber()) {
            return ofNumbers(sign, left, right);
        }
        if (left.kind == 3 && right.kind == 3) {
            String a = left.letters();
            String b = right.letters();
            if (sign == '+') {
                return Value.word((a + b).substring(0, Math.min(6, a.length() + b.length())));
            }
            if (sign == '<') {
                return Value.truth(a.compareTo(b) < 0);
            }
            return sign == '=' ? Value.truth(a.equals(b)) : null;
        }
        return sign == '=' ? Value.truth(left.kind == 0 && right.kind == 0) : null;
    }

    private static Value ofNumbers(char sign, Value left, Value right) {
        java.math.BigInteger a = java.math.BigInteger.valueOf(left.number);
        java.math.BigInteger b = java.math.BigInteger.valueOf(right.number);
        java.math.BigInteger out;
        switch (sign) {
            case '<':
                return Value.truth(a.compareTo(b) < 0);
            case '=':
                return Value.truth(a.compareTo(b) == 0);
            case '+':
                out = a.add(b);
                break;
            case '-':
                out = a.subtract(b);
                break;
            case '*':
                out = a.multiply(b);
                break;
            default:
                if (b.signum() == 0) {
                    return null;
                }
                out = sign == '/' ? a.divide(b) : a.remainder(b);
                break;
        }
        boolean whole = left.kind == 1 && right.kind == 1 && out.bitLength() <= 31;
        return new Value(whole ? 1 : 2, out.longValue());
    }
}
