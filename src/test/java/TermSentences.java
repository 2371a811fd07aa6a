import java.lang.reflect.InvocationTargetException;
import java.lang.reflect.Method;
import java.lang.reflect.Modifier;
import java.util.function.ToIntFunction;

/** The sentences of "What it is" and of "Terms", up to the clip. */
final class TermSentences {
    private static final int[] ANY_NUMBERS = {
        Integer.MIN_VALUE, Integer.MIN_VALUE + 1, -65536, -1, 0, 1, 2, 3, 4, 6, 7, 8, 25, 26, 39, 40, 41, 97, 120,
        65536, Integer.MAX_VALUE - 1, Integer.MAX_VALUE,
    };

    private final Sentences doc;

    TermSentences(Sentences doc) {
        this.doc = doc;
    }

    void run() {
        doc.in("What it is");
        calls();
        doc.in("Terms");
        numbers();
        letters();
        oneNode();
        fortyNodes();
        sixChildren();
        childrenFromZero();
        topIsNoChild();
        depths();
        turns();
        firstTree();
        firstPlace();
        spine();
        part();
        doc.in("Marks");
        fourMarks();
        marksStay();
        marksAtNone();
        marksAtNoneForGood();
        doc.in("The clip");
        clip();
        copyOfTheClip();
    }

    private void calls() {
        doc.says("An object is used for at most 512 calls after it has been made");
        TreePlaces x = new TreePlaces();
        for (int call = 1; call <= 512; call += 4) {
            doc.is("child, call " + call, x.child(0, 1), 1);
            doc.is("down, call " + (call + 1), x.down(0), 1);
            doc.is("wrap, call " + (call + 2), x.wrap(2), 3);
            doc.is("cut, call " + (call + 3), x.cut(), 2);
        }
        TreePlaces y = new TreePlaces();
        for (int call = 1; call <= 512; call++) {
            doc.is("letter, call " + call, y.letter(call % 26), (call - 1) % 26);
        }
        TreePlaces z = Trees.of("a(b)");
        // What made the tree were 7 calls.
        for (int call = 8; call <= 512; call++) {
            doc.is("step, call " + call, z.step((call + 1) % 2), (call + 1) % 2);
        }
    }

    private void numbers() {
        doc.says("All numbers are whole numbers.");
        for (Method method : TreePlaces.class.getMethods()) {
            if (method.getDeclaringClass() == TreePlaces.class && !Modifier.isStatic(method.getModifiers())) {
                for (int one : ANY_NUMBERS) {
                    for (int other : ANY_NUMBERS) {
                        answersAnyNumbers(method, one, other);
                    }
                }
            }
        }
    }

    private void answersAnyNumbers(Method method, int one, int other) {
        Integer[] given = {one, other};
        Object[] arguments = java.util.Arrays.copyOf(given, method.getParameterCount());
        for (TreePlaces x : new TreePlaces[] {new TreePlaces(), Trees.busy("a(b(c),d)", 1)}) {
            try {
                doc.holds(method + " of any numbers", (int) method.invoke(x, arguments) >= -4);
            } catch (IllegalAccessException | InvocationTargetException thrown) {
                doc.holds(method + " of " + one + " and " + other + " throws " + thrown.getCause(), false);
            }
        }
    }

    private void letters() {
        doc.says("Letters are told as 0 to 25, for a to z.");
        for (int letter = 0; letter < 26; letter++) {
            TreePlaces x = Trees.of(String.valueOf((char) ('a' + letter)));
            doc.is("letter " + letter + " as it is read", x.nodeOf(0, 0), letter);
            doc.is("write()", x.write(), 1);
            x.letter((letter + 1) % 26);
            x.read();
            doc.is("letter " + letter + " as it was written", x.nodeOf(0, 0), letter);
        }
        for (char beside : new char[] {'`', '{', 'A', 'Z'}) {
            TreePlaces x = new TreePlaces();
            x.type(beside);
            doc.is("fault of " + beside, x.fault(1), 1);
        }
        doc.refused("letter(-1)", TreePlaces::new, x -> x.letter(-1), -1);
        doc.refused("letter(26)", TreePlaces::new, x -> x.letter(26), -1);
    }

    private void oneNode() {
        doc.says("A tree has 1 to 40 nodes");
        doc.is("nodes", new TreePlaces().count(0), 1);
        doc.refused("delete() of the only node", TreePlaces::new, TreePlaces::delete, -2);
        doc.refused("cut() of the only node", TreePlaces::new, TreePlaces::cut, -2);
        doc.refused("lift() of the only node", TreePlaces::new, TreePlaces::lift, -2);
        doc.refused("read() of no node", TreePlaces::new, TreePlaces::read, -2);
    }

    private void fortyNodes() {
        doc.says("1 to 40 nodes");
        doc.is("nodes of a full tree", Trees.of(Trees.full()).count(0), 40);
        fortiethAndNoMore("child", 36, x -> x.child(0, 1));
        fortiethAndNoMore("beside", 37, x -> x.beside(1, 1));
        fortiethAndNoMore("wrap", 37, x -> x.wrap(1));
        fortiethAndNoMore("paste", 36, x -> x.paste(0));
        TreePlaces x = Trees.of(Trees.full());
        Trees.type(x, Trees.full().replaceAll("..$", ",c))"));
        doc.is("read() of 41 nodes", x.read(), -2);
    }

    /** The call must be possible with a node less, and not with the full tree. */
    private void fortiethAndNoMore(String call, int number, ToIntFunction<TreePlaces> ask) {
        doc.refused(call + " to 41 nodes", () -> oneNodeInClip(Trees.full(), number), ask, -3);
        TreePlaces x = oneNodeInClip(Trees.full().replaceAll(",c..$", "))"), number);
        doc.is("nodes ahead of " + call, x.count(0), 39);
        doc.holds(call + " to 40 nodes", ask.applyAsInt(x) >= 0);
        doc.is("nodes after " + call, x.count(0), 40);
    }

    private static TreePlaces oneNodeInClip(String text, int number) {
        TreePlaces x = Trees.at(text, 38);
        x.copy();
        x.top();
        Trees.walkDown(x, number);
        return x;
    }

    private void sixChildren() {
        doc.says("each node has a letter and a row of at most 6 children");
        String five = Trees.row("a", "b", 5);
        String six = Trees.row("a", "b", 6);
        TreePlaces x = Trees.of(five);
        doc.is("child to six", x.child(5, 1), 6);
        doc.is("children", x.nodeOf(0, 1), 6);
        doc.refused("child to seven", () -> Trees.of(six), y -> y.child(6, 1), -3);
        doc.is("beside to six", Trees.at(five, 5).beside(1, 1), 6);
        doc.refused("beside to seven", () -> Trees.at(six, 6), y -> y.beside(1, 1), -3);
        doc.is("paste to six", withLeafInClip(five).paste(0), 7);
        doc.refused("paste to seven", () -> withLeafInClip(six), y -> y.paste(0), -3);
        doc.is("lift to six", Trees.at("a(b(c,c,c),d,d,d)", 1).lift(), 3);
        doc.refused("lift to seven", () -> Trees.at("a(b(c,c,c),d,d,d,d)", 1), TreePlaces::lift, -3);
        doc.is("read of six", Trees.of(six).count(0), 7);
        doc.refused("read of seven", () -> typed(Trees.row("a", "b", 7)), TreePlaces::read, -2);
    }

    private static TreePlaces withLeafInClip(String text) {
        TreePlaces x = Trees.at(text, 1);
        x.copy();
        x.up();
        return x;
    }

    private static TreePlaces typed(String text) {
        TreePlaces x = new TreePlaces();
        Trees.type(x, text);
        return x;
    }

    private void childrenFromZero() {
        doc.says("numbered from 0.");
        TreePlaces x = Trees.of("a(b,c,d,e,f,g)");
        for (int child = 0; child < 6; child++) {
            doc.is("which child it is", x.nodeOf(child + 1, 5), child);
            doc.is("down(" + child + ")", x.down(child), child + 1);
            x.up();
        }
        doc.refused("down(6)", () -> Trees.of("a(b,c,d,e,f,g)"), y -> y.down(6), -2);
    }

    private void topIsNoChild() {
        doc.says("The top is the node that is no child.");
        TreePlaces x = Trees.of("a(b(c),d)");
        doc.is("nodeOf(0, 5)", x.nodeOf(0, 5), -4);
        doc.is("nodeOf(0, 2)", x.nodeOf(0, 2), -4);
        for (int number = 1; number < 4; number++) {
            doc.holds("nodeOf(" + number + ", 5)", x.nodeOf(number, 5) >= 0);
            doc.holds("nodeOf(" + number + ", 2)", x.nodeOf(number, 2) >= 0);
        }
    }

    private void depths() {
        doc.says("The depth of a node is how many nodes are above it: 0 for the top; it is 7 at most.");
        String chain = Trees.chain("abcdefgh");
        TreePlaces x = Trees.of(chain);
        for (int number = 0; number < 8; number++) {
            doc.is("nodeOf(" + number + ", 3)", x.nodeOf(number, 3), number);
        }
        doc.is("child to depth 7", Trees.at(chain, 6).child(1, 1), 2);
        doc.refused("child to depth 8", () -> Trees.at(chain, 7), y -> y.child(0, 1), -3);
        doc.is("wrap to depth 7", Trees.at(Trees.chain("abcdefg"), 6).wrap(1), 8);
        doc.refused("wrap to depth 8", () -> Trees.at(chain, 7), y -> y.wrap(1), -3);
        doc.is("beside at depth 7", Trees.at(chain, 7).beside(0, 1), 2);
        doc.is("paste to depth 7", leafInClip(chain, 6).paste(0), 9);
        doc.refused("paste to depth 8", () -> leafInClip(chain, 7), y -> y.paste(0), -3);
        doc.refused("read to depth 8", () -> typed(Trees.chain("abcdefghi")), TreePlaces::read, -2);
    }

    private static TreePlaces leafInClip(String text, int number) {
        TreePlaces x = Trees.at(text, 7);
        x.copy();
        x.top();
        Trees.walkDown(x, number);
        return x;
    }

    private void turns() {
        doc.says("The number of a node is its turn, from 0 on, when each node goes ahead of its children, and these"
                + " go one behind the other with all that is below them.");
        TreePlaces x = Trees.of("a(b(c,d(e,f)),g(h),i)");
        for (int number = 0; number < 9; number++) {
            doc.is("letter of " + number, x.nodeOf(number, 0), number);
        }
        doc.is("nodeOf(9, 0)", x.nodeOf(9, 0), -1);
        doc.is("the first of all", x.count(1), 0);
        for (int number = 1; number < 9; number++) {
            doc.is("step(1)", x.step(1), number);
        }
    }

    private void firstTree() {
        doc.says("At first the tree is one node with the letter 0.");
        TreePlaces x = new TreePlaces();
        doc.is("nodes", x.count(0), 1);
        doc.is("letter", x.nodeOf(0, 0), 0);
        doc.is("children", x.nodeOf(0, 1), 0);
        doc.is("what letter(0) gives back", x.letter(0), 0);
    }

    private void firstPlace() {
        doc.says("The place is one of its nodes, the top at first.");
        doc.is("place", new TreePlaces().count(1), 0);
        doc.is("its depth", new TreePlaces().count(2), 0);
        TreePlaces x = Trees.at("a(b(c))", 2);
        doc.is("delete()", x.delete(), 1);
        doc.is("place when its node is gone", x.count(1), 1);
        x.delete();
        doc.is("place when only the top is left", x.count(1), 0);
    }

    private void spine() {
        doc.says("The spine is the row of nodes from the top down to the place, both too.");
        TreePlaces x = Trees.at("a(b,c(d,e(f)))", 4);
        int[] spine = {0, 2, 4, -4};
        for (int depth = 0; depth < spine.length; depth++) {
            doc.is("spine(" + depth + ", 0)", x.spine(depth, 0), spine[depth]);
        }
        doc.is("spine(0, 0) of a new object", new TreePlaces().spine(0, 0), 0);
        doc.is("spine(1, 0) of a new object", new TreePlaces().spine(1, 0), -4);
    }

    private void part() {
        doc.says("A node with all that is below it is a part.");
        int[] nodes = {8, 4, 1, 2, 1, 2, 1, 1};
        for (int number = 0; number < nodes.length; number++) {
            TreePlaces x = Trees.at("a(b(c,d(e)),f(g),h)", number);
            doc.is("nodeOf(" + number + ", 4)", x.nodeOf(number, 4), nodes[number]);
            doc.is("copy()", x.copy(), nodes[number]);
            doc.is("delete()", x.delete(), number == 0 ? -2 : nodes[number]);
        }
    }

    private void fourMarks() {
        doc.says("There are 4 marks, 0 to 3; each is at a node, or at none (at first).");
        TreePlaces x = Trees.of("a(b(c(d)))");
        for (int mark = 0; mark < 4; mark++) {
            doc.is("marked(" + mark + ") at first", x.marked(mark), -4);
        }
        for (int mark = 0; mark < 4; mark++) {
            doc.is("mark(" + mark + ")", x.mark(mark), 100);
            x.down(0);
        }
        for (int mark = 0; mark < 4; mark++) {
            doc.is("marked(" + mark + ")", x.marked(mark), mark);
        }
        doc.refused("mark(4)", TreePlaces::new, y -> y.mark(4), -1);
        doc.refused("mark(-1)", TreePlaces::new, y -> y.mark(-1), -1);
    }

    private void marksStay() {
        doc.says("A mark stays with its node, wherever it goes within the tree");
        // The marked node is c, number 2, with b ahead of it and d below.
        staysWhere("letter", 2, x -> x.letter(9), 2);
        staysWhere("child ahead", 0, x -> x.child(0, 9), 3);
        staysWhere("child behind", 0, x -> x.child(3, 9), 2);
        staysWhere("child below", 2, x -> x.child(0, 9), 2);
        staysWhere("beside ahead", 2, x -> x.beside(0, 9), 3);
        staysWhere("beside behind", 2, x -> x.beside(1, 9), 2);
        staysWhere("delete ahead", 1, TreePlaces::delete, 1);
        staysWhere("delete behind", 4, TreePlaces::delete, 2);
        staysWhere("delete below", 3, TreePlaces::delete, 2);
        staysWhere("cut ahead", 1, TreePlaces::cut, 1);
        staysWhere("wrap", 2, x -> x.wrap(9), 3);
        staysWhere("wrap above", 0, x -> x.wrap(9), 3);
        staysWhere("wrap below", 3, x -> x.wrap(9), 2);
        staysWhere("lift ahead", 1, TreePlaces::lift, 1);
        staysWhere("lift below", 3, TreePlaces::lift, 2);
        staysWhere("exchange to the right", 2, x -> x.exchange(1), 3);
        staysWhere("exchange to the left", 2, x -> x.exchange(0), 1);
        staysWhere("exchange of those beside", 4, x -> x.exchange(0), 3);
        staysWhere("a walk", 2, TreePlaces::up, 2);
        TreePlaces x = Trees.at("a(b(c))", 1);
        x.mark(3);
        x.up();
        x.lift();
        doc.is("mark after lift of the top", x.marked(3), 0);
    }

    private void staysWhere(String call, int place, ToIntFunction<TreePlaces> ask, int number) {
        TreePlaces x = Trees.at("a(b,c(d),e)", 2);
        x.mark(1);
        x.top();
        Trees.walkDown(x, place);
        doc.holds(call + " is possible", ask.applyAsInt(x) >= 0);
        doc.is("mark after " + call, x.marked(1), number);
        doc.is("marks there after " + call, x.nodeOf(number, 7), 2);
        doc.is("goTo after " + call, x.goTo(1), number);
    }

    private void marksAtNone() {
        doc.says("if its node is no node of the tree any more, it is at none");
        atNoneAfter("delete", 2, TreePlaces::delete);
        atNoneAfter("delete of the part above", 1, TreePlaces::delete);
        atNoneAfter("cut", 2, TreePlaces::cut);
        atNoneAfter("cut of the part above", 1, TreePlaces::cut);
        atNoneAfter("lift", 2, TreePlaces::lift);
        TreePlaces x = Trees.of("a(b)");
        x.mark(0);
        x.lift();
        doc.is("mark of a top that was lifted", x.marked(0), -4);
        doc.is("marks at the new top", x.nodeOf(0, 7), 0);
    }

    private void atNoneAfter(String call, int place, ToIntFunction<TreePlaces> ask) {
        TreePlaces x = Trees.at("a(b(c(d),e),f)", 2);
        x.mark(0);
        x.mark(3);
        x.up();
        x.mark(1);
        x.top();
        x.mark(2);
        Trees.walkDown(x, place);
        doc.holds(call + " is possible", ask.applyAsInt(x) >= 0);
        doc.is("mark 0 after " + call, x.marked(0), -4);
        doc.is("mark 3 after " + call, x.marked(3), -4);
        doc.is("mark 1 after " + call, x.marked(1), place == 1 ? -4 : 1);
        doc.is("mark 2 after " + call, x.marked(2), 0);
    }

    private void marksAtNoneForGood() {
        doc.says("(for good, also if a part is pasted).");
        TreePlaces x = Trees.at("a(b(c),d)", 1);
        x.mark(0);
        x.cut();
        doc.is("paste()", x.paste(0), 4);
        doc.is("mark after a paste", x.marked(0), -4);
        doc.is("marks at what was pasted", x.nodeOf(2, 7), 0);
        doc.is("mark() anew", x.mark(0), 100);
        TreePlaces y = Trees.at("a(b,c)", 1);
        y.mark(0);
        y.delete();
        y.child(0, 1);
        y.beside(0, 1);
        y.wrap(1);
        doc.is("mark after new nodes", y.marked(0), -4);
    }

    private void clip() {
        doc.says("There is a clip: a part that was cut or copied, or none (at first).");
        doc.is("nodes of the clip at first", new TreePlaces().count(6), 0);
        doc.refused("paste(0) at first", TreePlaces::new, x -> x.paste(0), -2);
        TreePlaces x = Trees.at("a(b(c,d),e)", 1);
        x.copy();
        doc.is("nodes of what was copied", x.count(6), 3);
        x.side(1);
        x.cut();
        doc.is("nodes of what was cut", x.count(6), 1);
        x.paste(2);
        doc.is("tree with what was cut", Trees.told(x), "a(b(c,d,e))");
        x.delete();
        doc.is("what was deleted is no clip", x.count(6), 1);
    }

    private void copyOfTheClip() {
        doc.says("What is pasted is a copy of it, of new nodes.");
        TreePlaces x = Trees.at("a(b(c))", 1);
        x.mark(0);
        x.copy();
        doc.is("paste into itself", x.paste(0), 5);
        doc.is("tree then", Trees.told(x), "a(b(b(c),c))");
        doc.is("the clip is as it was", x.count(6), 2);
        doc.is("marks at the copy", x.nodeOf(2, 7), 0);
        doc.is("mark", x.marked(0), 1);
        x.down(0);
        x.letter(25);
        x.up();
        x.paste(2);
        doc.is("what becomes of a copy is nothing to the clip", Trees.told(x), "a(b(z(c),c,b(c)))");
        TreePlaces y = Trees.at("a(b,c)", 1);
        y.side(1);
        y.side(0);
        y.cut();
        y.paste(0);
        doc.is("walks lead to no copy", Told.by(1, y), "walks 0");
    }
}
