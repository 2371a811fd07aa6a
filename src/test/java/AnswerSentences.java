/** The sentences of promises 18 to 27: marks, what there is, what is found, and undo. */
final class AnswerSentences {
    private static final int LEAST = Integer.MIN_VALUE;
    private static final int GREATEST = Integer.MAX_VALUE;
    private static final int[] NO_MARKS = {-1, 4, LEAST, GREATEST};
    private static final String EIGHT_DEEP = Trees.chain("abcdefgh");
    private static final String ALL_LETTERS = "z(y,x,w,v,u,t(s,r,q,p,o,n(m,l,k,j,i,h(g,f,e,d,c,b(a)))))";

    private final Sentences doc;

    AnswerSentences(Sentences doc) {
        this.doc = doc;
    }

    void run() {
        doc.in("Promise 18");
        mark();
        doc.in("Promise 19");
        goTo();
        goToThePlace();
        doc.in("Promise 20");
        nodeOf();
        nodeOfParts();
        nodeOfRefused();
        doc.in("Promise 21");
        spine();
        spineRefused();
        doc.in("Promise 22");
        marked();
        doc.in("Promise 23");
        countNodes();
        countKept();
        countRefused();
        doc.in("Promise 24");
        like();
        doc.in("Promise 25");
        meet();
        doc.in("Promise 26");
        find();
        findRefused();
        doc.in("Promise 27");
        undo();
    }

    private void mark() {
        doc.says("Puts a mark at the place.");
        TreePlaces x = Trees.at("a(b,c)", 2);
        x.mark(1);
        doc.is("marked(1)", x.marked(1), 2);
        doc.is("marks there", x.nodeOf(2, 7), 2);
        doc.is("place", x.count(1), 2);
        doc.says("`mark`: 0 to 3");
        doc.is("mark(0)", new TreePlaces().mark(0), 100);
        doc.is("mark(3)", new TreePlaces().mark(3), 100);
        doc.says("Returns the number of the node at which it was");
        x.up();
        doc.is("mark(1) from a node", x.mark(1), 2);
        doc.is("mark(1) from the top", x.mark(1), 0);
        TreePlaces last = Trees.at(Trees.full(), 39);
        last.mark(0);
        last.top();
        doc.is("mark(0) from the last of 40", last.mark(0), 39);
        doc.says("INVALID_ARGUMENT if mark is out of range");
        for (int wrong : NO_MARKS) {
            doc.refused("mark(" + wrong + ")", () -> Trees.busy("a(b,c)", 1), y -> y.mark(wrong), -1);
        }
        doc.says("it is no error that it was at none: 100.");
        TreePlaces none = Trees.at("a(b)", 1);
        int states = none.count(7);
        doc.is("mark(0) from none", none.mark(0), 100);
        doc.is("it is recorded", none.count(7), states + 1);
        doc.is("it is there", none.marked(0), 1);
        none.delete();
        doc.is("mark(0) from a node that is gone", none.mark(0), 100);
        doc.is("it is at the place", none.marked(0), 0);
    }

    private void goTo() {
        doc.says("Walks to the node of a mark");
        TreePlaces x = Trees.at("a(b(c),d)", 2);
        x.mark(3);
        x.top();
        x.goTo(3);
        doc.is("place", x.count(1), 2);
        doc.is("places put down", x.count(5), 4);
        doc.is("back()", x.back(), 0);
        doc.says("`mark`: 0 to 3");
        for (int mark = 0; mark < 4; mark++) {
            TreePlaces y = Trees.at("a(b,c)", 1);
            y.mark(mark);
            y.side(1);
            doc.is("goTo(" + mark + ")", y.goTo(mark), 1);
        }
        doc.says("Returns the number of the node");
        TreePlaces z = Trees.at("a(b,c)", 2);
        z.mark(0);
        z.beside(0, 5);
        z.top();
        doc.is("goTo(0)", z.goTo(0), 3);
        doc.says("INVALID_ARGUMENT if mark is out of range");
        for (int wrong : NO_MARKS) {
            doc.refused("goTo(" + wrong + ")", () -> Trees.busy("a(b,c)", 1), y -> y.goTo(wrong), -1);
        }
        doc.says("NOT_POSSIBLE if it is at none.");
        for (int mark = 0; mark < 4; mark++) {
            int which = mark;
            doc.refused("goTo(" + which + ") at first", TreePlaces::new, y -> y.goTo(which), -2);
        }
        doc.refused("goTo(2) after its node is gone", () -> {
            TreePlaces y = Trees.busy("a(b,c)", 1);
            y.delete();
            return y;
        }, y -> y.goTo(2), -2);
    }

    private void goToThePlace() {
        doc.says("(also if it is the place: a walk to where it is puts nothing down).");
        TreePlaces x = Trees.at("a(b,c)", 1);
        x.mark(0);
        int states = x.count(7);
        doc.is("goTo(0)", x.goTo(0), 1);
        doc.is("place", x.count(1), 1);
        doc.is("places put down", x.count(5), 1);
        doc.is("states", x.count(7), states + 1);
        doc.is("back()", x.back(), 0);
        TreePlaces y = new TreePlaces();
        y.mark(3);
        doc.is("goTo(3) at the top", y.goTo(3), 0);
        doc.is("places put down at the top", y.count(5), 0);
    }

    private void nodeOf() {
        doc.says("Returns something of a node.");
        doc.is("nodeOf(1, 0)", Trees.of("a(d,c)").nodeOf(1, 0), 3);
        doc.says("`number`: number of the node");
        TreePlaces full = Trees.of(Trees.full());
        doc.is("nodeOf(0, 0)", full.nodeOf(0, 0), 0);
        doc.is("nodeOf(36, 0)", full.nodeOf(36, 0), 1);
        doc.is("nodeOf(39, 0)", full.nodeOf(39, 0), 2);
        doc.says("`what`: 0: its letter");
        doc.is("the least letter", Trees.of("z(a)").nodeOf(1, 0), 0);
        doc.is("the greatest letter", Trees.of("z(a)").nodeOf(0, 0), 25);
        doc.says("1: its children");
        for (int children = 0; children <= 6; children++) {
            TreePlaces x = Trees.of("a(" + Trees.row("b", "c(d)", children) + ",e)");
            doc.is("nodeOf(1, 1)", x.nodeOf(1, 1), children);
        }
        doc.says("2: the number of the node above");
        int[] above = {-4, 0, 1, 1, 3, 0, 5};
        for (int number = 0; number < 7; number++) {
            doc.is("nodeOf(" + number + ", 2)", Trees.of("a(b(c,d(e)),f(g))").nodeOf(number, 2), above[number]);
        }
        doc.is("nodeOf(39, 2)", full.nodeOf(39, 2), 36);
        doc.says("3: its depth");
        for (int number = 0; number < 8; number++) {
            doc.is("nodeOf(" + number + ", 3)", Trees.of(EIGHT_DEEP).nodeOf(number, 3), number);
        }
    }

    private void nodeOfParts() {
        doc.says("4: the nodes of its part");
        TreePlaces full = Trees.of(Trees.full());
        doc.is("nodeOf(0, 4) of one", new TreePlaces().nodeOf(0, 4), 1);
        doc.is("nodeOf(0, 4) of 40", full.nodeOf(0, 4), 40);
        doc.is("nodeOf(1, 4)", full.nodeOf(1, 4), 7);
        doc.is("nodeOf(36, 4)", full.nodeOf(36, 4), 4);
        doc.is("nodeOf(39, 4)", full.nodeOf(39, 4), 1);
        doc.says("5: which child it is");
        for (int child = 0; child < 6; child++) {
            doc.is("nodeOf of child " + child, full.nodeOf(1 + 7 * child, 5), child);
            doc.is("nodeOf of child " + child + " of the fifth", full.nodeOf(30 + child, 5), child);
        }
        doc.says("6: the height of its part: the greatest depth in it less its own");
        for (int number = 0; number < 8; number++) {
            doc.is("nodeOf(" + number + ", 6)", Trees.of(EIGHT_DEEP).nodeOf(number, 6), 7 - number);
        }
        int[] heights = {3, 1, 0, 2, 0, 1, 0, 0, 0};
        for (int number = 0; number < 9; number++) {
            doc.is("height of " + number, Trees.of("a(b(c),d(e,f(g),h),i)").nodeOf(number, 6), heights[number]);
        }
        doc.says("7: the marks at it, as a set");
        TreePlaces x = Trees.at("a(b,c)", 1);
        doc.is("no mark", x.nodeOf(1, 7), 0);
        int set = 0;
        for (int mark = 0; mark < 4; mark++) {
            x.mark(mark);
            set += 1 << mark;
            doc.is("marks 0 to " + mark, x.nodeOf(1, 7), set);
        }
        x.side(1);
        x.mark(2);
        doc.is("marks that stay", x.nodeOf(1, 7), 11);
        doc.is("mark 2", x.nodeOf(2, 7), 4);
    }

    private void nodeOfRefused() {
        doc.says("Returns the number");
        doc.is("nodeOf(2, 2)", Trees.of("a(b(c))").nodeOf(2, 2), 1);
        doc.says("INVALID_ARGUMENT if there is no such node or what is out of range");
        for (int what = 0; what < 8; what++) {
            for (int wrong : new int[] {-1, 3, 40, LEAST, GREATEST}) {
                int which = what;
                doc.refused("nodeOf(" + wrong + ", " + which + ")", () -> Trees.busy("a(b,c)", 1),
                        x -> x.nodeOf(wrong, which), -1);
            }
        }
        doc.is("nodeOf(40, 0) of 40", Trees.of(Trees.full()).nodeOf(40, 0), -1);
        doc.is("nodeOf(1, 0) of one", new TreePlaces().nodeOf(1, 0), -1);
        for (int wrong : new int[] {-1, 8, LEAST, GREATEST}) {
            doc.refused("nodeOf(1, " + wrong + ")", () -> Trees.busy("a(b,c)", 1), x -> x.nodeOf(1, wrong), -1);
        }
        doc.says("NOT_FOUND for 2 and 5 at the top.");
        doc.refused("nodeOf(0, 2)", () -> Trees.busy("a(b,c)", 1), x -> x.nodeOf(0, 2), -4);
        doc.refused("nodeOf(0, 5)", () -> Trees.busy("a(b,c)", 1), x -> x.nodeOf(0, 5), -4);
        doc.is("nodeOf(1, 2) of a child", Trees.of("a(b)").nodeOf(1, 2), 0);
        doc.is("nodeOf(1, 5) of a child", Trees.of("a(b)").nodeOf(1, 5), 0);
    }

    private void spine() {
        doc.says("Returns a node of the spine.");
        TreePlaces x = Trees.at("a(b,c(d,e(f(g))))", 5);
        doc.is("spine(2, 0)", x.spine(2, 0), 4);
        doc.says("`depth`: 0 or more");
        TreePlaces deep = Trees.at("a(b,c(d,e(f,g(h,i(j,k(l,m(n,o)))))))", 14);
        for (int depth = 0; depth < 8; depth++) {
            doc.is("spine(" + depth + ", 1)", deep.spine(depth, 1), 2 * depth);
        }
        int[] numbers = {0, 2, 4, 5};
        doc.says("`what`: 0: its number");
        for (int at = 0; at < 4; at++) {
            doc.is("spine(" + at + ", 0)", x.spine(at, 0), numbers[at]);
        }
        doc.says("1: its letter");
        TreePlaces y = Trees.at("z(b,a(d,c(h(g))))", 5);
        int[] letters = {25, 0, 2, 7};
        for (int at = 0; at < 4; at++) {
            doc.is("spine(" + at + ", 1)", y.spine(at, 1), letters[at]);
        }
        doc.says("2: which child it is, 0 for the top");
        int[] children = {0, 1, 1, 0};
        for (int depth = 0; depth < 4; depth++) {
            doc.is("spine(" + depth + ", 2)", x.spine(depth, 2), children[depth]);
        }
        doc.is("spine(0, 2) of a new object", new TreePlaces().spine(0, 2), 0);
        doc.is("spine(1, 2) of the sixth", Trees.at(Trees.full(), 36).spine(1, 2), 5);
    }

    private void spineRefused() {
        doc.says("Returns the number");
        doc.is("spine(1, 0)", Trees.at("a(b,c)", 2).spine(1, 0), 2);
        doc.says("INVALID_ARGUMENT if depth is negative or what is out of range");
        for (int wrong : new int[] {-1, LEAST}) {
            doc.refused("spine(" + wrong + ", 0)", () -> Trees.busy("a(b,c)", 1), x -> x.spine(wrong, 0), -1);
            doc.refused("spine(" + wrong + ", 3)", () -> Trees.busy("a(b,c)", 1), x -> x.spine(wrong, 3), -1);
        }
        for (int wrong : new int[] {-1, 3, LEAST, GREATEST}) {
            doc.refused("spine(0, " + wrong + ")", () -> Trees.busy("a(b,c)", 1), x -> x.spine(0, wrong), -1);
        }
        doc.says("NOT_FOUND if the spine is not so long.");
        for (int what = 0; what < 3; what++) {
            int which = what;
            doc.refused("spine(2, " + what + ")", () -> Trees.busy("a(b(c),d)", 1), x -> x.spine(2, which), -4);
            doc.is("spine(1, " + what + ") of a new object", new TreePlaces().spine(1, what), -4);
            // A node of that depth stands ahead of the place, but not on its spine.
            doc.is("spine(2, " + what + ") behind depth 2", Trees.at("a(b(c),d)", 3).spine(2, what), -4);
            doc.is("spine(1, " + what + ") above depth 1", Trees.of("a(b(c),d)").spine(1, what), -4);
            doc.is("spine(8, " + what + ") at depth 7", Trees.at(EIGHT_DEEP, 7).spine(8, what), -4);
            doc.is("spine(greatest, " + what + ")", Trees.at(EIGHT_DEEP, 7).spine(GREATEST, what), -4);
        }
        TreePlaces x = Trees.at(EIGHT_DEEP, 7);
        x.up();
        doc.is("spine(7, 0) at depth 6", x.spine(7, 0), -4);
    }

    private void marked() {
        doc.says("Returns the number of the node at which a mark is.");
        TreePlaces x = Trees.at("a(b,c)", 1);
        x.mark(0);
        x.side(1);
        x.mark(3);
        doc.is("marked(0)", x.marked(0), 1);
        doc.is("marked(3)", x.marked(3), 2);
        doc.says("`mark`: 0 to 3");
        for (int mark = 0; mark < 4; mark++) {
            TreePlaces y = new TreePlaces();
            y.mark(mark);
            doc.is("marked(" + mark + ")", y.marked(mark), 0);
        }
        doc.says("Returns the number;");
        TreePlaces z = Trees.at(Trees.full(), 39);
        z.mark(1);
        doc.is("marked(1)", z.marked(1), 39);
        doc.says("INVALID_ARGUMENT if mark is out of range");
        for (int wrong : NO_MARKS) {
            doc.refused("marked(" + wrong + ")", () -> Trees.busy("a(b,c)", 1), y -> y.marked(wrong), -1);
        }
        doc.says("NOT_FOUND if it is at none.");
        for (int mark = 0; mark < 4; mark++) {
            int which = mark;
            doc.refused("marked(" + mark + ") at first", TreePlaces::new, y -> y.marked(which), -4);
        }
        x.delete();
        doc.is("marked(3) after its node is gone", x.marked(3), -4);
        doc.is("marked(0)", x.marked(0), 1);
    }

    private void countNodes() {
        doc.says("Returns a number.");
        doc.is("count(0)", Trees.of("a(b,c)").count(0), 3);
        TreePlaces one = new TreePlaces();
        TreePlaces full = Trees.at(Trees.full(), 39);
        TreePlaces deep = Trees.at(EIGHT_DEEP, 7);
        doc.says("0: nodes");
        doc.is("count(0) of one", one.count(0), 1);
        doc.is("count(0) of 40", full.count(0), 40);
        doc.says("1: the number of the place");
        doc.is("count(1) at the top", one.count(1), 0);
        doc.is("count(1) at the last of 40", full.count(1), 39);
        doc.says("2: its depth");
        doc.is("count(2) at the top", one.count(2), 0);
        doc.is("count(2) at depth 7", deep.count(2), 7);
        doc.is("count(2) of a place that is not the deepest", Trees.at("a(b(c),d)", 3).count(2), 1);
        doc.says("3: leaves (nodes without children)");
        doc.is("count(3) of one", one.count(3), 1);
        doc.is("count(3) of a chain", deep.count(3), 1);
        doc.is("count(3) of 40", full.count(3), 33);
        doc.is("count(3) of few", Trees.of("a(b(c,d),e,f(g))").count(3), 4);
        doc.says("4: the greatest depth");
        doc.is("count(4) of one", one.count(4), 0);
        doc.is("count(4) of 40", full.count(4), 2);
        doc.is("count(4) of a chain", deep.count(4), 7);
        doc.is("count(4), not at the place", Trees.at("a(b(c(d)),e)", 4).count(4), 3);
        doc.says("9: unlike letters");
        doc.is("count(9) of one", one.count(9), 1);
        doc.is("count(9) of a tree of one letter", Trees.of("z(z,z(z))").count(9), 1);
        doc.is("count(9) of all letters", Trees.of(ALL_LETTERS).count(9), 26);
        doc.is("count(9) of 40", full.count(9), 3);
    }

    private void countKept() {
        doc.says("5: places that are put down by walks (also nodes that are gone since)");
        doc.is("count(5) at first", new TreePlaces().count(5), 0);
        TreePlaces x = Trees.at("a(b(c),d)", 2);
        x.up();
        x.delete();
        doc.is("count(5), with two that are gone", x.count(5), 3);
        TreePlaces many = Trees.at(EIGHT_DEEP, 7);
        many.up();
        doc.is("count(5) of eight", many.count(5), 8);
        many.up();
        doc.is("count(5) of nine", many.count(5), 8);
        doc.says("6: nodes of the clip, 0 if there is none");
        doc.is("count(6) at first", new TreePlaces().count(6), 0);
        TreePlaces clip = Trees.of(Trees.full());
        clip.copy();
        doc.is("count(6) of 40", clip.count(6), 40);
        clip.down(5);
        clip.down(0);
        clip.cut();
        doc.is("count(6) of one", clip.count(6), 1);
        doc.says("7: states in the history");
        TreePlaces states = new TreePlaces();
        for (int state = 0; state <= 6; state++) {
            doc.is("count(7) after " + state, states.count(7), Math.min(state, 4));
            states.letter(state);
        }
        doc.says("8: the length of the text");
        TreePlaces text = new TreePlaces();
        for (int length = 0; length <= 120; length++) {
            doc.is("count(8)", text.count(8), length);
            text.type(32 + length % 95);
        }
        doc.is("count(8) at last", text.count(8), 120);
    }

    private void countRefused() {
        doc.says("Returns the number");
        doc.is("count(8)", Trees.busy("a(b)", 1).count(8), 6);
        doc.says("INVALID_ARGUMENT if what is out of range.");
        for (int wrong : new int[] {-1, 10, LEAST, GREATEST}) {
            doc.refused("count(" + wrong + ")", () -> Trees.busy("a(b,c)", 1), x -> x.count(wrong), -1);
        }
        doc.says("`what`:");
        for (int what = 0; what < 10; what++) {
            doc.holds("count(" + what + ")", new TreePlaces().count(what) >= 0);
        }
    }

    private void like() {
        doc.says("Counts parts that are like that at the place: with the same letters in the same tree");
        doc.is("like() of three", Trees.at("a(b(c,d),e(b(c,d)),b(c,d))", 1).like(), 3);
        doc.is("like() of another row", Trees.at("a(b(c,d),b(d,c))", 1).like(), 1);
        doc.is("like() of fewer", Trees.at("a(b(c,d),b(c))", 4).like(), 1);
        doc.is("like() of more", Trees.at("a(b(c,d),b(c,d,e))", 1).like(), 1);
        doc.is("like() of another top", Trees.at("a(b(c,d),e(c,d))", 1).like(), 1);
        doc.is("like() of another last one", Trees.at("a(b(c,d),b(c,e))", 1).like(), 1);
        doc.is("like() of a chain and a row", Trees.at("a(b(c(d)),b(c,d))", 1).like(), 1);
        doc.is("like() of a row that turns down", Trees.at("a(b(c(d),e),b(c(d,e)))", 1).like(), 1);
        doc.is("like() at other depths", Trees.at("a(b(c),d(e(b(c))))", 1).like(), 2);
        doc.is("like() at other depths, from below", Trees.at("a(b(c),d(e(b(c))))", 5).like(), 2);
        doc.is("like() of leaves", Trees.at(Trees.full(), 2).like(), 33);
        doc.is("like() of rows of six", Trees.at(Trees.full(), 1).like(), 5);
        doc.is("like() of chains of one letter", Trees.at(Trees.chain("aaaaaaaa"), 7).like(), 1);
        doc.is("like() at the end of all", Trees.at("a(b(c),b(c,d),b(c))", 1).like(), 2);
        doc.says("it counts itself.");
        doc.is("like() of one", new TreePlaces().like(), 1);
        doc.is("like() of all", Trees.of("a(a,a)").like(), 1);
        doc.says("Returns how many.");
        doc.is("like() of two", Trees.at("a(b,b)", 1).like(), 2);
    }

    private void meet() {
        String text = "a(b(c,d(e,f)),g(h))";
        TreePlaces x = Trees.of(text);
        doc.says("Returns the node at which the spines of two nodes part: the deepest one that is on both.");
        doc.is("meet(4, 5)", x.meet(4, 5), 3);
        doc.is("meet(2, 5)", x.meet(2, 5), 1);
        doc.is("meet(5, 6)", x.meet(5, 6), 0);
        doc.is("meet(3, 5), one on the spine of the other", x.meet(3, 5), 3);
        doc.is("meet(1, 5)", x.meet(1, 5), 1);
        doc.is("meet(0, 7), with the top", x.meet(0, 7), 0);
        for (int number = 0; number < 8; number++) {
            doc.is("meet(" + number + ", " + number + ")", x.meet(number, number), number);
            doc.is("meet(0, " + number + ")", x.meet(0, number), 0);
        }
        doc.says("`one`: number of a node");
        doc.is("meet(5, 4)", x.meet(5, 4), 3);
        doc.is("meet(7, 6)", x.meet(7, 6), 6);
        doc.says("`other`: number of a node");
        doc.is("meet(2, 3)", x.meet(2, 3), 1);
        doc.is("meet(6, 7)", x.meet(6, 7), 6);
        doc.says("Returns its number");
        doc.is("meet(38, 39) of 40", Trees.of(Trees.full()).meet(38, 39), 36);
        doc.is("meet(0, 0) of one", new TreePlaces().meet(0, 0), 0);
        doc.is("meet(39, 39) of 40", Trees.of(Trees.full()).meet(39, 39), 39);
        doc.says("INVALID_ARGUMENT if there is no such node.");
        for (int wrong : new int[] {-1, 8, 40, LEAST, GREATEST}) {
            doc.refused("meet(" + wrong + ", 1)", () -> Trees.busy(text, 1), y -> y.meet(wrong, 1), -1);
            doc.refused("meet(1, " + wrong + ")", () -> Trees.busy(text, 1), y -> y.meet(1, wrong), -1);
            doc.refused("meet of " + wrong + " twice", () -> Trees.busy(text, 1), y -> y.meet(wrong, wrong), -1);
        }
    }

    private void find() {
        doc.says("Finds a node by its letter, from the place on, by numbers, and over the end to the place itself.");
        TreePlaces x = Trees.at("a(b(c),d(b),b)", 4);
        doc.is("find(1) behind the place", x.find(1), 5);
        doc.is("find(3) ahead of the place", x.find(3), 3);
        doc.is("find(0) over the end", x.find(0), 0);
        doc.is("find(2) over the end", x.find(2), 2);
        doc.is("find(1) from the last, over the end", Trees.at("a(b,c,b)", 3).find(1), 1);
        doc.says("`letter`: 0 to 25");
        for (int letter = 0; letter < 26; letter++) {
            doc.is("find(" + letter + ")", Trees.of(ALL_LETTERS).find(letter), 25 - letter);
        }
        doc.says("Returns the number of the first node with this letter behind the place, of the place itself at last");
        doc.is("find(1), the first of two behind", Trees.of("a(b,b)").find(1), 1);
        doc.is("find(1), the place itself rather not", Trees.at("a(b,b)", 1).find(1), 2);
        doc.is("find(1), one ahead rather", Trees.at("a(b,b)", 2).find(1), 1);
        doc.is("find(1), the place alone", Trees.at("a(b,c)", 1).find(1), 1);
        doc.is("find(2), the place at the end alone", Trees.at("a(b,c)", 2).find(2), 2);
        doc.is("find(0), the top alone", Trees.of("a(b,c)").find(0), 0);
        doc.is("find(0) of one", new TreePlaces().find(0), 0);
    }

    private void findRefused() {
        doc.says("INVALID_ARGUMENT if letter is out of range");
        for (int wrong : new int[] {-1, 26, LEAST, GREATEST}) {
            doc.refused("find(" + wrong + ")", () -> Trees.busy("a(b,c)", 1), x -> x.find(wrong), -1);
        }
        doc.says("NOT_FOUND if there is none.");
        doc.refused("find(3)", () -> Trees.busy("a(b,c)", 1), x -> x.find(3), -4);
        doc.refused("find(25)", () -> Trees.busy("a(b,c)", 2), x -> x.find(25), -4);
        doc.refused("find(1) of a new object", TreePlaces::new, x -> x.find(1), -4);
        TreePlaces gone = Trees.at("a(b,c)", 2);
        gone.delete();
        doc.is("find(2) of a node that is gone", gone.find(2), -4);
    }

    private void undo() {
        doc.says("Restores the latest state of the history");
        TreePlaces x = Trees.at("a(b(c),d)", 1);
        x.letter(7);
        x.delete();
        x.undo();
        doc.is("state", Trees.state(x), "a(h(c),d) place 1 walks 1 clip 0 marks -4 -4 -4 -4");
        x.undo();
        doc.is("state ahead of it", Trees.state(x), "a(b(c),d) place 1 walks 1 clip 0 marks -4 -4 -4 -4");
        doc.says("which is removed from it.");
        doc.is("states", x.count(7), 2);
        x.undo();
        doc.is("place", x.count(1), 0);
        x.undo();
        doc.is("tree", Trees.told(x), "a");
        doc.says("Returns the number of states that are left in the history");
        TreePlaces y = new TreePlaces();
        for (int letter = 1; letter <= 5; letter++) {
            y.letter(letter);
        }
        for (int left = 3; left >= 0; left--) {
            doc.is("undo()", y.undo(), left);
            doc.is("letter", y.nodeOf(0, 0), left + 1);
        }
        doc.says("NOT_POSSIBLE if it is empty.");
        doc.is("undo() once more", y.undo(), -2);
        doc.refused("undo() of a new object", TreePlaces::new, TreePlaces::undo, -2);
        doc.refused("undo() of a history that is used up", () -> {
            // What is ahead of the four states stays: walks, a mark, a clip, a text.
            TreePlaces z = Trees.busy("a(b)", 1);
            for (int letter = 2; letter < 6; letter++) {
                z.letter(letter);
            }
            for (int left = 4; left > 0; left--) {
                z.undo();
            }
            return z;
        }, TreePlaces::undo, -2);
    }
}
