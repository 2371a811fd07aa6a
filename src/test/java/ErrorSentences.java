import java.io.IOException;
import java.nio.file.Files;
import java.nio.file.Path;
import java.util.LinkedHashMap;
import java.util.List;
import java.util.Map;
import java.util.function.Supplier;
import java.util.function.ToIntFunction;

/** The sentences of "Changes and errors". */
final class ErrorSentences {
    private static final Path PROGRAM = Path.of("src/main/java/TreePlaces.java");
    private static final String SIX = Trees.row("a", "b", 6);

    private final Sentences doc;

    ErrorSentences(Sentences doc) {
        this.doc = doc;
    }

    void run() throws IOException {
        doc.in("Changes and errors");
        recorded();
        notRecorded();
        fourStates();
        everythingButTheText();
        fifthState();
        invalidRatherThanNotPossible();
        invalidRatherThanLimit();
        invalidRatherThanNotFound();
        notPossibleRatherThanLimit();
        errorsChangeNothing();
        constants();
        interfaceOfCalls();
    }

    /** A place in the middle, with walks, a clip, marks and a text, so that every call is possible. */
    private static TreePlaces ready() {
        TreePlaces x = Trees.at("a(b,c(d,e(f)),g)", 2);
        x.mark(2);
        x.down(1);
        x.copy();
        x.mark(0);
        x.up();
        Trees.type(x, "a(b,c)");
        // The history has room for a state more then, so that it can be seen to come.
        x.letter(9);
        x.undo();
        return x;
    }

    private static Map<String, ToIntFunction<TreePlaces>> recordedCalls() {
        Map<String, ToIntFunction<TreePlaces>> calls = new LinkedHashMap<>();
        calls.put("down", x -> x.down(0));
        calls.put("up", TreePlaces::up);
        calls.put("side", x -> x.side(1));
        calls.put("step", x -> x.step(1));
        calls.put("top", TreePlaces::top);
        calls.put("back", TreePlaces::back);
        calls.put("letter", x -> x.letter(3));
        calls.put("child", x -> x.child(1, 4));
        calls.put("beside", x -> x.beside(0, 5));
        calls.put("delete", TreePlaces::delete);
        calls.put("wrap", x -> x.wrap(6));
        calls.put("lift", TreePlaces::lift);
        calls.put("exchange", x -> x.exchange(1));
        calls.put("cut", TreePlaces::cut);
        calls.put("copy", TreePlaces::copy);
        calls.put("paste", x -> x.paste(0));
        calls.put("mark", x -> x.mark(1));
        calls.put("goTo", x -> x.goTo(0));
        calls.put("read", TreePlaces::read);
        return calls;
    }

    private void recorded() {
        doc.says("Recorded are the calls of down, up, side, step, top, back, letter, child, beside, delete, wrap, lift,"
                + " exchange, cut, copy, paste, mark, goTo and read that return no error.");
        for (Map.Entry<String, ToIntFunction<TreePlaces>> call : recordedCalls().entrySet()) {
            TreePlaces x = ready();
            int states = x.count(7);
            doc.holds(call.getKey() + " is possible", call.getValue().applyAsInt(x) >= 0);
            doc.is("states after " + call.getKey(), x.count(7), states + 1);
        }
        // Also where nothing is another then: the same letter, the same mark, a walk to the place.
        TreePlaces same = Trees.at("a(b)", 1);
        same.letter(1);
        doc.is("states after the same letter", same.count(7), 3);
        same.mark(0);
        same.undo();
        same.undo();
        same.undo();
        same.mark(0);
        same.mark(0);
        doc.is("states after the same mark", same.count(7), 3);
        same.goTo(0);
        doc.is("states after goTo the place", same.count(7), 4);
    }

    private void notRecorded() {
        doc.says("that return no error.");
        Map<String, ToIntFunction<TreePlaces>> wrong = new LinkedHashMap<>();
        wrong.put("down", x -> x.down(0));
        wrong.put("up", TreePlaces::up);
        wrong.put("side", x -> x.side(1));
        wrong.put("step", x -> x.step(1));
        wrong.put("top", TreePlaces::top);
        wrong.put("back", TreePlaces::back);
        wrong.put("letter", x -> x.letter(26));
        wrong.put("child", x -> x.child(1, 4));
        wrong.put("beside", x -> x.beside(0, 5));
        wrong.put("delete", TreePlaces::delete);
        wrong.put("wrap", x -> x.wrap(-1));
        wrong.put("lift", TreePlaces::lift);
        wrong.put("exchange", x -> x.exchange(1));
        wrong.put("cut", TreePlaces::cut);
        wrong.put("paste", x -> x.paste(0));
        wrong.put("mark", x -> x.mark(4));
        wrong.put("goTo", x -> x.goTo(2));
        wrong.put("read", TreePlaces::read);
        wrong.put("undo", TreePlaces::undo);
        for (Map.Entry<String, ToIntFunction<TreePlaces>> call : wrong.entrySet()) {
            TreePlaces x = new TreePlaces();
            doc.holds(call.getKey() + " is an error", call.getValue().applyAsInt(x) < 0);
            doc.is("states after an error of " + call.getKey(), x.count(7), 0);
        }
        TreePlaces x = new TreePlaces();
        for (int number = 0; number < 2; number++) {
            x.nodeOf(0, number);
            x.spine(0, number);
            x.marked(number);
            x.count(number);
            x.like();
            x.meet(0, 0);
            x.find(number);
            x.type('a');
            x.write();
            x.fault(number);
            x.clearText();
        }
        doc.is("states after all the other calls", x.count(7), 0);
    }

    private void fourStates() {
        doc.says("A history of at most 4 states is kept");
        for (int states = 0; states <= 7; states++) {
            TreePlaces x = lettered(states);
            doc.is("states after " + states + " calls", x.count(7), Math.min(states, 4));
            for (int left = Math.min(states, 4) - 1; left >= 0; left--) {
                doc.is("undo()", x.undo(), left);
            }
            doc.is("undo() of none", x.undo(), -2);
        }
    }

    /** A new object whose letter is then 1, then 2, and so on. */
    private static TreePlaces lettered(int calls) {
        TreePlaces x = new TreePlaces();
        for (int letter = 1; letter <= calls; letter++) {
            x.letter(letter);
        }
        return x;
    }

    private void everythingButTheText() {
        doc.says("each of them records everything before it but the text");
        for (Map.Entry<String, ToIntFunction<TreePlaces>> call : recordedCalls().entrySet()) {
            // The way of the history is left out: a state more may have dropped the first one.
            for (int way : new int[] {0, 1, 2, 4}) {
                TreePlaces undone = ready();
                call.getValue().applyAsInt(undone);
                doc.holds(call.getKey() + " changes something", !Trees.state(undone).equals(Trees.state(ready())));
                undone.undo();
                doc.is("what undo() of " + call.getKey() + " restores", Told.by(way, undone), Told.by(way, ready()));
            }
        }
        TreePlaces x = Trees.at("a(b)", 1);
        x.letter(7);
        Trees.type(x, "x(y");
        x.undo();
        doc.is("the text that was typed stays", x.fault(0), 3);
        x.letter(7);
        x.write();
        x.undo();
        doc.is("the text that was written stays", x.count(8), 4);
        x.read();
        doc.is("it is that tree", Trees.told(x), "a(h)");
        x.clearText();
        x.undo();
        doc.is("the text that was emptied stays so", x.count(8), 0);
        doc.is("the tree ahead of read()", Trees.told(x), "a(b)");
    }

    private void fifthState() {
        doc.says("and if there are 5 states then, the oldest one is dropped.");
        TreePlaces four = lettered(4);
        TreePlaces five = lettered(5);
        for (int letter = 3; letter >= 0; letter--) {
            four.undo();
            five.undo();
            doc.is("letter of four", four.nodeOf(0, 0), letter);
            doc.is("letter of five", five.nodeOf(0, 0), letter + 1);
        }
        doc.is("states of five", five.count(7), 0);
        TreePlaces again = lettered(9);
        again.undo();
        again.undo();
        again.letter(20);
        again.letter(21);
        again.letter(22);
        int[] letters = {21, 20, 7, 6};
        for (int letter : letters) {
            again.undo();
            doc.is("letter, some undone in between", again.nodeOf(0, 0), letter);
        }
        doc.is("undo() of none", again.undo(), -2);
    }

    private void invalidRatherThanNotPossible() {
        doc.says("If several errors apply to a call, INVALID_ARGUMENT is returned rather than NOT_POSSIBLE");
        Supplier<TreePlaces> one = TreePlaces::new;
        doc.refused("down(-1) of no child", one, x -> x.down(-1), -1);
        doc.refused("side(2) at the top", one, x -> x.side(2), -1);
        doc.refused("side(-1) at the top", one, x -> x.side(-1), -1);
        doc.refused("step(2) of one node", one, x -> x.step(2), -1);
        doc.refused("step(-1) of one node", one, x -> x.step(-1), -1);
        doc.refused("beside(2, 0) at the top", one, x -> x.beside(2, 0), -1);
        doc.refused("beside(-1, 0) at the top", one, x -> x.beside(-1, 0), -1);
        doc.refused("beside(0, 26) at the top", one, x -> x.beside(0, 26), -1);
        doc.refused("beside(1, -1) at the top", one, x -> x.beside(1, -1), -1);
        doc.refused("exchange(2) at the top", one, x -> x.exchange(2), -1);
        doc.refused("exchange(-1) at the top", one, x -> x.exchange(-1), -1);
        doc.refused("paste(-1) without a clip", one, x -> x.paste(-1), -1);
        doc.refused("paste(1) without a clip", one, x -> x.paste(1), -1);
        doc.refused("goTo(-1) with no mark at a node", one, x -> x.goTo(-1), -1);
        doc.refused("goTo(4) with no mark at a node", one, x -> x.goTo(4), -1);
    }

    private void invalidRatherThanLimit() {
        doc.says("INVALID_ARGUMENT is returned");
        Supplier<TreePlaces> six = () -> Trees.busy(SIX, 0);
        Supplier<TreePlaces> full = () -> Trees.at(Trees.full(), 39);
        Supplier<TreePlaces> deep = () -> Trees.busy(Trees.chain("abcdefgh"), 7);
        doc.refused("child(7, 0) of six", six, x -> x.child(7, 0), -1);
        doc.refused("child(-1, 0) of six", six, x -> x.child(-1, 0), -1);
        doc.refused("child(6, 26) of six", six, x -> x.child(6, 26), -1);
        doc.refused("child(1, 0) at depth 7", deep, x -> x.child(1, 0), -1);
        doc.refused("child(0, -1) at depth 7", deep, x -> x.child(0, -1), -1);
        doc.refused("child(1, 0) with 40 nodes", full, x -> x.child(1, 0), -1);
        doc.refused("child(0, 26) with 40 nodes", full, x -> x.child(0, 26), -1);
        doc.refused("beside(2, 0) with 40 nodes", full, x -> x.beside(2, 0), -1);
        doc.refused("beside(0, 26) with 40 nodes", full, x -> x.beside(0, 26), -1);
        doc.refused("beside(2, 0) at six", () -> Trees.busy(SIX, 1), x -> x.beside(2, 0), -1);
        doc.refused("wrap(26) with 40 nodes", full, x -> x.wrap(26), -1);
        doc.refused("wrap(-1) at depth 7", deep, x -> x.wrap(-1), -1);
        doc.refused("paste(7) at six", six, x -> x.paste(7), -1);
        doc.refused("paste(-1) at six", six, x -> x.paste(-1), -1);
        doc.refused("paste(1) at depth 7", deep, x -> x.paste(1), -1);
        doc.refused("paste(7) of 40 nodes to 80", () -> {
            TreePlaces x = Trees.of(Trees.full());
            x.copy();
            return x;
        }, x -> x.paste(7), -1);
        Supplier<TreePlaces> long120 = () -> {
            TreePlaces x = new TreePlaces();
            Trees.type(x, " ".repeat(120));
            return x;
        };
        doc.refused("type(31) at 120 characters", long120, x -> x.type(31), -1);
        doc.refused("type(127) at 120 characters", long120, x -> x.type(127), -1);
    }

    private void invalidRatherThanNotFound() {
        // No call has a limit and a value that may be wanting; so this is all that there is to ask for.
        doc.says("and LIMIT_REACHED rather than NOT_FOUND.");
        Supplier<TreePlaces> one = TreePlaces::new;
        doc.refused("nodeOf(0, 8) at the top", one, x -> x.nodeOf(0, 8), -1);
        doc.refused("nodeOf(-1, 2)", one, x -> x.nodeOf(-1, 2), -1);
        doc.refused("nodeOf(1, 5)", one, x -> x.nodeOf(1, 5), -1);
        doc.refused("spine(1, 3) of a short spine", one, x -> x.spine(1, 3), -1);
        doc.refused("spine(1, -1) of a short spine", one, x -> x.spine(1, -1), -1);
        doc.refused("marked(4) with no mark at a node", one, x -> x.marked(4), -1);
        doc.refused("marked(-1) with no mark at a node", one, x -> x.marked(-1), -1);
        doc.refused("find(26)", one, x -> x.find(26), -1);
        doc.refused("fault(2) of no fault", () -> {
            TreePlaces x = new TreePlaces();
            x.write();
            return x;
        }, x -> x.fault(2), -1);
    }

    private void notPossibleRatherThanLimit() {
        doc.says("NOT_POSSIBLE rather than LIMIT_REACHED");
        doc.refused("beside at the top of 40 nodes", () -> Trees.of(Trees.full()), x -> x.beside(0, 0), -2);
        doc.refused("beside behind the top of 40 nodes", () -> Trees.of(Trees.full()), x -> x.beside(1, 0), -2);
        doc.refused("paste without a clip at six", () -> Trees.of(SIX), x -> x.paste(6), -2);
        doc.refused("paste without a clip with 40 nodes", () -> Trees.at(Trees.full(), 39), x -> x.paste(0), -2);
        doc.refused("paste without a clip at depth 7", () -> Trees.at(Trees.chain("abcdefgh"), 7), x -> x.paste(0), -2);
        doc.refused("lift at a top with six that have many", () -> Trees.of(Trees.full()), TreePlaces::lift, -2);
    }

    private void errorsChangeNothing() {
        doc.says("A call that returns an error changes nothing.");
        Supplier<TreePlaces> top = () -> Trees.busy("a(b(c),d)", 0);
        for (ToIntFunction<TreePlaces> call : List.<ToIntFunction<TreePlaces>>of(TreePlaces::up, TreePlaces::top,
                x -> x.down(2), x -> x.side(0), x -> x.step(0), TreePlaces::back, x -> x.beside(1, 0),
                TreePlaces::delete, TreePlaces::lift, x -> x.exchange(1), TreePlaces::cut, x -> x.goTo(1))) {
            doc.refused("a call that is not possible", top, call, -2);
        }
        Supplier<TreePlaces> deep = () -> Trees.busy(Trees.chain("abcdefgh"), 7);
        for (ToIntFunction<TreePlaces> call : List.<ToIntFunction<TreePlaces>>of(x -> x.child(0, 0), x -> x.wrap(0),
                x -> x.paste(0))) {
            doc.refused("a call beyond a limit", deep, call, -3);
        }
        // A text with a fault behind a good part of a tree: none of it may have come into the tree.
        doc.refused("read() of a fault at the end", () -> {
            TreePlaces x = Trees.busy("a(b(c),d)", 1);
            Trees.type(x, "x(y,z(w),v");
            return x;
        }, TreePlaces::read, -2);
        // An error while the history is full must not drop its oldest state.
        doc.refused("letter(26) with four states", () -> lettered(6), x -> x.letter(26), -1);
        doc.refused("up() with four states", () -> lettered(6), TreePlaces::up, -2);
    }

    private void constants() {
        doc.says("The constants: `INVALID_ARGUMENT = -1`: An argument is out of its range.");
        doc.is("INVALID_ARGUMENT", TreePlaces.INVALID_ARGUMENT, -1);
        doc.is("down(-1)", new TreePlaces().down(-1), TreePlaces.INVALID_ARGUMENT);
        doc.says("`NOT_POSSIBLE = -2`: The call is not possible in the present state.");
        doc.is("NOT_POSSIBLE", TreePlaces.NOT_POSSIBLE, -2);
        doc.is("up()", new TreePlaces().up(), TreePlaces.NOT_POSSIBLE);
        doc.says("`LIMIT_REACHED = -3`: A fixed limit has been reached.");
        doc.is("LIMIT_REACHED", TreePlaces.LIMIT_REACHED, -3);
        doc.is("child(6, 0) of six", Trees.of(SIX).child(6, 0), TreePlaces.LIMIT_REACHED);
        doc.says("`NOT_FOUND = -4`: There is no such value.");
        doc.is("NOT_FOUND", TreePlaces.NOT_FOUND, -4);
        doc.is("find(1)", new TreePlaces().find(1), TreePlaces.NOT_FOUND);
    }

    private void interfaceOfCalls() throws IOException {
        String program = Files.readString(PROGRAM);
        stands(program, "walks", "down", "up", "side", "step", "top", "back");
        stands(program, "changes of the tree", "letter", "child", "beside", "delete", "wrap", "lift", "exchange",
                "cut", "copy", "paste");
        stands(program, "marks", "mark", "goTo");
        stands(program, "what there is", "nodeOf", "spine", "marked", "count");
        stands(program, "what is found", "like", "meet", "find", "undo");
        stands(program, "texts", "type", "clearText", "write", "fault", "read");
    }

    /** The words stand ahead of these calls, and these calls stand behind them in this order. */
    private void stands(String program, String words, String... calls) {
        doc.says("Ahead of the calls `" + String.join("`, `", calls) + "` the interface says: ---- " + words + ".");
        int at = program.indexOf("// ---- " + words + "\n");
        doc.holds("the words stand", at >= 0);
        String behind = program.substring(Math.max(at, 0) + 1);
        behind = behind.substring(0, behind.indexOf("// ----"));
        StringBuilder names = new StringBuilder();
        for (String line : behind.split("\n")) {
            if (line.startsWith("    public int ")) {
                names.append(line.replaceAll("    public int (\\w+).*", "$1 "));
            }
        }
        doc.is("calls behind " + words, names.toString().trim(), String.join(" ", calls));
    }
}
