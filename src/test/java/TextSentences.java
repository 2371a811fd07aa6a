/** The sentences of "Texts", and of promises 28 to 32. */
final class TextSentences {
    private static final int LEAST = Integer.MIN_VALUE;
    private static final int GREATEST = Integer.MAX_VALUE;
    private static final String EIGHT_OPEN = "a(b(c(d(e(f(g(h";

    private final Sentences doc;

    TextSentences(Sentences doc) {
        this.doc = doc;
    }

    void run() {
        doc.in("Texts");
        text();
        grammar();
        firstFault();
        charactersThatCannotStand();
        textsThatEndTooEarly();
        fortyFirstNode();
        tooDeep();
        tooManyChildren();
        doc.in("Promise 28");
        type();
        doc.in("Promise 29");
        clearText();
        doc.in("Promise 30");
        write();
        doc.in("Promise 31");
        fault();
        doc.in("Promise 32");
        read();
        readLeaves();
    }

    private static TreePlaces typed(String text) {
        TreePlaces x = new TreePlaces();
        Trees.type(x, text);
        return x;
    }

    private void isTree(String text, int nodes) {
        TreePlaces x = typed(text);
        doc.is("fault(0) of " + text, x.fault(0), -4);
        doc.is("fault(1) of " + text, x.fault(1), -4);
        doc.is("read() of " + text, x.read(), nodes);
        doc.is("tree", Trees.told(x), text);
    }

    private void hasFault(String text, int place, int reason) {
        TreePlaces x = typed(text);
        doc.is("fault(0) of '" + text + "'", x.fault(0), place);
        doc.is("fault(1) of '" + text + "'", x.fault(1), reason);
        doc.is("read() of '" + text + "'", x.read(), -2);
    }

    private void text() {
        doc.says("There is a text of at most 120 characters, initially empty.");
        doc.is("length at first", new TreePlaces().count(8), 0);
        doc.is("clearText() at first", new TreePlaces().clearText(), 0);
        String all = " ".repeat(120);
        doc.is("length of 120", typed(all).count(8), 120);
        doc.refused("the 121st character", () -> typed(all), x -> x.type(' '), -3);
    }

    private void grammar() {
        doc.says("As a tree it is a letter");
        isTree("a", 1);
        isTree("z", 1);
        doc.says("and then perhaps \"(\", one or more trees with \",\" between two, and \")\".");
        isTree("a(b)", 2);
        isTree("a(b,c)", 3);
        isTree("a(b,c,d,e,f,g)", 7);
        isTree("a(b(c,d(e)),f(g),h)", 8);
        isTree(Trees.chain("zyxwvuts"), 8);
        isTree(Trees.full(), 40);
        hasFault("a()", 2, 1);
        hasFault("a(b,)", 4, 1);
        hasFault("a(b,,c)", 4, 1);
        hasFault("a(,b)", 2, 1);
        hasFault("a(b)(c)", 4, 1);
        hasFault("a,b", 1, 1);
        hasFault("(a)", 0, 1);
    }

    private void firstFault() {
        doc.says("Its fault is told by a place and a reason, the first one from the left:");
        hasFault("A(B", 0, 1);
        hasFault("ab)c", 1, 1);
        hasFault("a(b,b,b,b,b,b,b(", 13, 4);
        hasFault("a(b,b,b,b,b,b,B", 13, 4);
        hasFault(EIGHT_OPEN + "(I", 15, 3);
        hasFault(EIGHT_OPEN + "(i,i,i,i,i,i,i", 15, 3);
        hasFault("a(b,b,B,b,b,b,b)", 6, 1);
        String full = Trees.full();
        hasFault(full.substring(0, full.length() - 2) + ",c,c,c,c)", full.length() - 1, 2);
        hasFault(full.substring(0, full.length() - 2) + ",c!", full.length() - 1, 2);
    }

    private void charactersThatCannotStand() {
        doc.says("1: a character that cannot stand at its place (its index;");
        for (char character = ' '; character <= '~'; character++) {
            boolean letter = character >= 'a' && character <= 'z';
            if (!letter) {
                hasFault(character + "a", 0, 1);
                hasFault("a(" + character + "c)", 2, 1);
                hasFault("a(b," + character + "c)", 4, 1);
            }
            if (character != '(') {
                hasFault("a" + character + "b", 1, 1);
            }
            if (character != '(' && character != ',' && character != ')') {
                hasFault("a(b" + character + "c)", 3, 1);
            }
            if (character != ',' && character != ')') {
                hasFault("a(b(c)" + character + "d)", 6, 1);
            }
            hasFault("a(b)" + character, 4, 1);
        }
        String end = " ".repeat(113);
        hasFault("a(b,c)" + end + "a", 6, 1);
        hasFault(Trees.full() + "!", Trees.full().length(), 1);
    }

    private void textsThatEndTooEarly() {
        doc.says("the length of the text if it ends too early, as the empty text does)");
        hasFault("", 0, 1);
        String text = "a(b(c,d(e)),f)";
        for (int length = 2; length < text.length(); length++) {
            hasFault(text.substring(0, length), length, 1);
        }
        hasFault(EIGHT_OPEN, EIGHT_OPEN.length(), 1);
        hasFault(EIGHT_OPEN + "))))))", EIGHT_OPEN.length() + 6, 1);
        String full = Trees.full();
        hasFault(full.substring(0, full.length() - 1), full.length() - 1, 1);
        hasFault(full.substring(0, full.length() - 2) + ",", full.length() - 1, 1);
        hasFault("a(b,b,b,b,b,b", 13, 1);
        TreePlaces x = Trees.of("a");
        x.type('a');
        x.clearText();
        doc.is("fault(0) of a text that was emptied", x.fault(0), 0);
        doc.is("fault(1) of a text that was emptied", x.fault(1), 1);
    }

    private void fortyFirstNode() {
        doc.says("2: the letter of a forty-first node");
        String full = Trees.full();
        String open = full.substring(0, full.length() - 2);
        isTree(full, 40);
        hasFault(open + ",d))", full.length() - 1, 2);
        hasFault(open + "(d)))", full.length() - 1, 2);
        hasFault(open + ",z", full.length() - 1, 2);
        // Another character there is none of a node, and other faults at the fortieth are as ever.
        hasFault(open + ",D))", full.length() - 1, 1);
        hasFault(open + ",))", full.length() - 1, 1);
        hasFault(open + "d", full.length() - 2, 1);
        hasFault(full + "d", full.length(), 1);
        hasFault(full.substring(0, full.length() - 1) + ",b)", full.length() - 1, 4);
    }

    private void tooDeep() {
        doc.says("3: a \"(\" whose nodes would have a depth of 8");
        isTree(EIGHT_OPEN + ")))))))", 8);
        hasFault(EIGHT_OPEN + "(", 15, 3);
        hasFault(EIGHT_OPEN + "(i))))))))", 15, 3);
        hasFault(EIGHT_OPEN + "()", 15, 3);
        hasFault(EIGHT_OPEN + ",h(", 17, 3);
        hasFault("a(b," + EIGHT_OPEN.substring(2) + "(i", 17, 3);
        hasFault(EIGHT_OPEN + ")(", 16, 1);
        // What was closed is not deep any more.
        isTree(EIGHT_OPEN + ")))))),b(c(d(e(f(g(h)))))))", 15);
        // 40 nodes, the last one at depth 7: the "(" is told, not the letter behind it.
        String many = "a(" + (Trees.row("b", "c", 6) + ",").repeat(4) + "b(c,c),b(c(c(c(c(c(c";
        isTree(many + ")))))))", 39);
        hasFault(many + ",c(c", many.length() + 2, 3);
    }

    private void tooManyChildren() {
        doc.says("4: the \",\" ahead of a seventh child (its index each).");
        isTree("a(b,b,b,b,b,b)", 7);
        hasFault("a(b,b,b,b,b,b,", 13, 4);
        hasFault("a(b,b,b,b,b,b,b)", 13, 4);
        hasFault("a(b,b,b,b,b,b,,", 13, 4);
        hasFault("a(b,b,b,b,b,b(c),b)", 16, 4);
        hasFault("a(b(c,c,c,c,c,c,c))", 15, 4);
        hasFault("a(b(c,c,c,c,c,c),b,b,b,b,b,b)", 26, 4);
        hasFault("a(b,b(c,c,c,c,c,c,c))", 17, 4);
        isTree("a(b(c,c,c,c,c,c),b(c,c,c,c,c,c),b)", 16);
        hasFault("a(b,b,b,b,b,b))", 14, 1);
    }

    private void type() {
        doc.says("Appends a character to the text.");
        TreePlaces x = typed("a(b");
        x.type(')');
        doc.is("read() of a(b)", x.read(), 2);
        doc.is("tree", Trees.told(x), "a(b)");
        doc.says("`character`: 32 to 126");
        for (int character = 32; character <= 126; character++) {
            doc.is("type(" + character + ")", new TreePlaces().type(character), 1);
        }
        doc.says("Returns the length of the text");
        TreePlaces y = new TreePlaces();
        for (int length = 1; length <= 120; length++) {
            doc.is("type('a')", y.type('a'), length);
        }
        doc.says("INVALID_ARGUMENT if character is out of range");
        for (int wrong : new int[] {31, 127, 0, 10, -1, 128, 65536 + 97, LEAST, GREATEST}) {
            doc.refused("type(" + wrong + ")", () -> Trees.busy("a(b)", 1), z -> z.type(wrong), -1);
        }
        doc.says("LIMIT_REACHED if it has 120 characters.");
        String tree = Trees.full();
        doc.refused("type('a')", () -> typed(tree + " ".repeat(120 - tree.length())), z -> z.type('a'), -3);
        doc.is("type('a') to 120", typed(" ".repeat(119)).type('a'), 120);
        y.clearText();
        doc.is("type('a') after clearText()", y.type('a'), 1);
    }

    private void clearText() {
        doc.says("Empties the text.");
        TreePlaces x = typed("a(b)");
        x.clearText();
        doc.is("length", x.count(8), 0);
        doc.is("fault(0)", x.fault(0), 0);
        x.type('z');
        x.read();
        doc.is("tree", Trees.told(x), "z");
        doc.says("Returns the length it had.");
        doc.is("clearText() of none", new TreePlaces().clearText(), 0);
        doc.is("clearText() of one", typed("a").clearText(), 1);
        doc.is("clearText() of 120", typed(" ".repeat(120)).clearText(), 120);
        TreePlaces twice = typed("a(b)");
        twice.clearText();
        doc.is("clearText() again", twice.clearText(), 0);
    }

    private void write() {
        doc.says("Makes the text the tree.");
        for (String text : new String[] {"a", "z(y)", "a(b,c,d,e,f,g)", "a(b(c,d(e)),f(g),h)", Trees.full()}) {
            TreePlaces x = Trees.of(text);
            Trees.walkDown(x, x.count(0) - 1);
            Trees.type(x, "!".repeat(120));
            x.write();
            doc.is("length", x.count(8), text.length());
            x.letter(25);
            doc.is("read()", x.read(), x.count(0));
            doc.is("tree", Trees.told(x), text);
        }
        doc.says("Returns its length.");
        doc.is("write() of one node", new TreePlaces().write(), 1);
        doc.is("write() of two", Trees.of("a(b)").write(), 4);
        doc.is("write() of 40", Trees.of(Trees.full()).write(), Trees.full().length());
        // No tree has a longer text: with fewer leaves it would be too deep.
        String longest = "a(" + (Trees.chain("bcdefgh") + ",").repeat(5) + Trees.chain("wxyz") + ")";
        doc.is("write() of the longest", Trees.of(longest).write(), 113);
    }

    private void fault() {
        doc.says("Tells about the fault of the text as a tree.");
        doc.is("fault(0)", typed("a(b!").fault(0), 3);
        doc.is("length is as it was", typed("a(b!").count(8), 4);
        doc.says("`what`: 0: its place; 1: its reason");
        doc.is("fault(0)", typed("a(b,b,b,b,b,b,b)").fault(0), 13);
        doc.is("fault(1)", typed("a(b,b,b,b,b,b,b)").fault(1), 4);
        doc.says("Returns that");
        doc.is("the least place", new TreePlaces().fault(0), 0);
        String longest = "a(" + (Trees.chain("bcdefgh") + ",").repeat(5) + Trees.chain("wxyz");
        doc.is("the end of the longest text without its last sign", typed(longest).fault(0), 112);
        doc.is("what is behind the longest text", typed(longest + ")!").fault(0), 113);
        doc.is("the least reason", new TreePlaces().fault(1), 1);
        doc.says("INVALID_ARGUMENT if what is out of range");
        for (int wrong : new int[] {-1, 2, LEAST, GREATEST}) {
            doc.refused("fault(" + wrong + ") with a fault", () -> typed("a("), x -> x.fault(wrong), -1);
            doc.refused("fault(" + wrong + ") without one", () -> typed("a"), x -> x.fault(wrong), -1);
        }
        doc.says("NOT_FOUND if the text has no fault.");
        doc.refused("fault(0) of a tree", () -> typed("a(b)"), x -> x.fault(0), -4);
        doc.refused("fault(1) of a tree", () -> typed("a(b)"), x -> x.fault(1), -4);
        TreePlaces mended = typed("a(b");
        doc.is("fault(1) that can be mended", mended.fault(1), 1);
        mended.type(')');
        doc.is("fault(1) that was mended", mended.fault(1), -4);
    }

    private void read() {
        doc.says("Makes the tree that of the text");
        TreePlaces x = Trees.at("a(b,c)", 2);
        Trees.type(x, "z(y(x,w),v)");
        x.read();
        doc.is("tree", Trees.told(x), "z(y(x,w),v)");
        TreePlaces many = Trees.of(Trees.full());
        Trees.type(many, "a(b)");
        many.read();
        many.down(0);
        many.mark(0);
        many.beside(0, 2);
        doc.is("tree after one of 40", Trees.told(many), "a(c,b)");
        doc.is("place, behind a node that was put in", many.count(1), 2);
        doc.is("mark there", many.marked(0), 2);
        doc.is("way back", Told.by(1, many), "walks 0");
        doc.says("which stays.");
        doc.is("length", x.count(8), 11);
        x.letter(7);
        doc.is("read() again", x.read(), 5);
        doc.is("tree again", Trees.told(x), "z(y(x,w),v)");
        doc.says("Returns how many nodes it has");
        doc.is("read() of one", typed("b").read(), 1);
        doc.is("read() of 40", typed(Trees.full()).read(), 40);
        doc.is("read() of one after 40", readAfterFull("b"), 1);
        doc.says("NOT_POSSIBLE if the text has a fault.");
        String full = Trees.full();
        for (String text : new String[] {"", "a(", "(", "a(b,b,b,b,b,b,b)", EIGHT_OPEN + "(i))))))))",
                full.substring(0, full.length() - 2) + ",c))", full + " "}) {
            doc.refused("read() of '" + text + "'", () -> {
                TreePlaces y = Trees.busy("a(b,c)", 1);
                Trees.type(y, text);
                return y;
            }, TreePlaces::read, -2);
        }
    }

    private static int readAfterFull(String text) {
        TreePlaces x = Trees.of(Trees.full());
        Trees.type(x, text);
        return x.read() == x.count(0) ? x.count(0) : -100;
    }

    private void readLeaves() {
        TreePlaces x = Trees.busy("a(b(c),d)", 1);
        x.mark(0);
        x.mark(3);
        x.down(0);
        x.mark(1);
        x.read();
        doc.says("The place is its top");
        doc.is("place", x.count(1), 0);
        doc.says("no walk is put down any more (count(5) is 0)");
        doc.is("count(5)", x.count(5), 0);
        doc.is("back()", x.back(), -2);
        doc.says("all marks are at none");
        for (int mark = 0; mark < 4; mark++) {
            doc.is("marked(" + mark + ")", x.marked(mark), -4);
        }
        for (int number = 0; number < 3; number++) {
            doc.is("nodeOf(" + number + ", 7)", x.nodeOf(number, 7), 0);
        }
        doc.says("the clip stays.");
        doc.is("count(6)", x.count(6), 2);
        x.paste(2);
        doc.is("tree with the clip", Trees.told(x), "x(y,z,b(c))");
    }
}
