/** The sentences of promises 8 to 12: letters and nodes that are put in, taken out and wrapped. */
final class ChangeSentences {
    private static final int[] NO_CHOICES = {-1, 2, Integer.MIN_VALUE, Integer.MAX_VALUE};
    private static final int[] NO_LETTERS = {-1, 26, Integer.MIN_VALUE, Integer.MAX_VALUE};
    private static final String SIX = Trees.row("a", "b", 6);
    private static final String EIGHT_DEEP = Trees.chain("abcdefgh");

    private final Sentences doc;

    ChangeSentences(Sentences doc) {
        this.doc = doc;
    }

    void run() {
        doc.in("Promise 8");
        letter();
        doc.in("Promise 9");
        child();
        childArguments();
        childLimits();
        doc.in("Promise 10");
        beside();
        besideArguments();
        besideLimits();
        doc.in("Promise 11");
        delete();
        deletePlace();
        doc.in("Promise 12");
        wrap();
        wrapLimits();
    }

    private void letter() {
        doc.says("Gives the place another letter.");
        TreePlaces x = Trees.at("a(b(c),d)", 1);
        x.letter(7);
        doc.is("tree", Trees.told(x), "a(h(c),d)");
        doc.is("place", x.count(1), 1);
        doc.says("`letter`: 0 to 25");
        doc.is("letter(0)", Trees.at("a(b)", 1).letter(0), 1);
        doc.is("letter(25)", Trees.at("a(b)", 1).letter(25), 1);
        doc.says("Returns the one it had");
        TreePlaces y = new TreePlaces();
        doc.is("letter(25)", y.letter(25), 0);
        doc.is("letter(0)", y.letter(0), 25);
        doc.is("letter(0) to the same", y.letter(0), 0);
        doc.is("letter(24)", y.letter(24), 0);
        doc.says("INVALID_ARGUMENT if letter is out of range.");
        for (int wrong : NO_LETTERS) {
            doc.refused("letter(" + wrong + ")", () -> Trees.busy("a(b(c),d)", 1), x2 -> x2.letter(wrong), -1);
        }
    }

    private void child() {
        doc.says("Puts a node in as a child of the place");
        TreePlaces x = Trees.at("a(b(c),d)", 1);
        x.child(1, 25);
        doc.is("tree", Trees.told(x), "a(b(c,z),d)");
        TreePlaces leaf = Trees.at("a(b(c),d)", 2);
        leaf.child(0, 25);
        doc.is("tree with a child of a leaf", Trees.told(leaf), "a(b(c(z)),d)");
        doc.says("those from there on have numbers that are greater by 1.");
        for (int child = 0; child <= 3; child++) {
            TreePlaces y = Trees.of("a(b(f),c,d)");
            y.child(child, 25);
            int put = y.find(25);
            doc.is("which child it is", y.nodeOf(put, 5), child);
            doc.is("which child b is", y.nodeOf(y.find(1), 5), child <= 0 ? 1 : 0);
            doc.is("which child c is", y.nodeOf(y.find(2), 5), child <= 1 ? 2 : 1);
            doc.is("which child d is", y.nodeOf(y.find(3), 5), child <= 2 ? 3 : 2);
            doc.is("number of d", y.find(3), child <= 2 ? 5 : 4);
        }
        doc.says("The place stays.");
        TreePlaces z = Trees.at("a(b(c),d)", 1);
        z.child(0, 9);
        doc.is("place", z.count(1), 1);
        doc.is("its letter", z.nodeOf(1, 0), 1);
        doc.is("places put down", z.count(5), 1);
    }

    private void childArguments() {
        doc.says("`child`: 0 to as many children as there are: which child it is then");
        doc.is("child(0, 0) of none", new TreePlaces().child(0, 0), 1);
        doc.is("child(0, 0) of five", Trees.of(Trees.row("a", "b", 5)).child(0, 0), 6);
        doc.is("child(5, 0) of five", Trees.of(Trees.row("a", "b", 5)).child(5, 0), 6);
        doc.says("`letter`: 0 to 25");
        TreePlaces x = new TreePlaces();
        x.child(0, 0);
        x.child(1, 25);
        doc.is("tree", Trees.told(x), "a(a,z)");
        doc.says("Returns how many children there are then");
        TreePlaces y = Trees.at("a(b(e,e,e),c(d))", 5);
        for (int children = 2; children <= 6; children++) {
            doc.is("child(0, 0)", y.child(0, 0), children);
        }
        doc.says("INVALID_ARGUMENT if an argument is out of range");
        for (int wrong : new int[] {-1, 3, 7, Integer.MIN_VALUE, Integer.MAX_VALUE}) {
            doc.refused("child(" + wrong + ", 0)", () -> Trees.busy("a(b(c),d)", 0), z -> z.child(wrong, 0), -1);
        }
        doc.refused("child(1, 0) of none", TreePlaces::new, z -> z.child(1, 0), -1);
        for (int wrong : NO_LETTERS) {
            doc.refused("child(0, " + wrong + ")", () -> Trees.busy("a(b(c),d)", 0), z -> z.child(0, wrong), -1);
        }
    }

    private void childLimits() {
        doc.says("LIMIT_REACHED if there are 40 nodes or 6 children, or the place has the depth 7.");
        doc.refused("child with 40 nodes", () -> Trees.at(Trees.full(), 36), x -> x.child(0, 0), -3);
        doc.refused("child(3, 0) with 40 nodes", () -> Trees.at(Trees.full(), 36), x -> x.child(3, 0), -3);
        doc.refused("child of a leaf with 40 nodes", () -> Trees.at(Trees.full(), 39), x -> x.child(0, 0), -3);
        for (int child = 0; child <= 6; child++) {
            int which = child;
            doc.refused("child(" + which + ", 0) of six", () -> Trees.busy(SIX, 0), x -> x.child(which, 0), -3);
        }
        doc.refused("child at depth 7", () -> Trees.busy(EIGHT_DEEP, 7), x -> x.child(0, 0), -3);
        doc.is("child at depth 6", Trees.at(EIGHT_DEEP, 6).child(0, 0), 2);
        doc.is("child below six", Trees.at(SIX, 6).child(0, 0), 1);
        TreePlaces x = Trees.at(Trees.full(), 39);
        x.delete();
        doc.is("child with 39 nodes", x.child(0, 0), 1);
        doc.is("nodes", x.count(0), 40);
    }

    private void beside() {
        doc.says("Puts a node in beside the place");
        TreePlaces x = Trees.at("a(b(c),d)", 2);
        x.beside(1, 25);
        doc.is("tree", Trees.told(x), "a(b(c,z),d)");
        doc.says("which stays.");
        TreePlaces y = Trees.at("a(b,c(d))", 2);
        y.beside(0, 9);
        doc.is("place behind the new node", y.count(1), 3);
        doc.is("its letter", y.nodeOf(3, 0), 2);
        y.beside(1, 8);
        doc.is("place ahead of the new node", y.count(1), 3);
        doc.is("places put down", y.count(5), 1);
        doc.says("`right`: 1: behind it; 0: ahead of it");
        TreePlaces behind = Trees.at("a(b,c(e,f),d)", 2);
        behind.beside(1, 25);
        doc.is("tree with a node behind", Trees.told(behind), "a(b,c(e,f),z,d)");
        TreePlaces ahead = Trees.at("a(b,c(e,f),d)", 2);
        ahead.beside(0, 25);
        doc.is("tree with a node ahead", Trees.told(ahead), "a(b,z,c(e,f),d)");
        TreePlaces only = Trees.at("a(b(c))", 1);
        only.beside(1, 25);
        only.beside(0, 24);
        doc.is("tree of an only child", Trees.told(only), "a(y,b(c),z)");
    }

    private void besideArguments() {
        doc.says("`letter`: 0 to 25");
        TreePlaces x = Trees.at("a(b)", 1);
        x.beside(0, 0);
        x.beside(1, 25);
        doc.is("tree", Trees.told(x), "a(a,b,z)");
        doc.says("Returns how many children the node above has then");
        TreePlaces y = Trees.at("a(b(e,f,g),c)", 1);
        for (int children = 3; children <= 6; children++) {
            doc.is("beside", y.beside(children % 2, 0), children);
        }
        doc.says("INVALID_ARGUMENT if an argument is out of range");
        for (int wrong : NO_CHOICES) {
            doc.refused("beside(" + wrong + ", 0)", () -> Trees.busy("a(b(c),d)", 1), z -> z.beside(wrong, 0), -1);
        }
        for (int wrong : NO_LETTERS) {
            doc.refused("beside(1, " + wrong + ")", () -> Trees.busy("a(b(c),d)", 1), z -> z.beside(1, wrong), -1);
            doc.refused("beside(0, " + wrong + ")", () -> Trees.busy("a(b(c),d)", 1), z -> z.beside(0, wrong), -1);
        }
    }

    private void besideLimits() {
        doc.says("NOT_POSSIBLE at the top");
        doc.refused("beside(0, 0) at the top", () -> Trees.busy("a(b)", 0), x -> x.beside(0, 0), -2);
        doc.refused("beside(1, 0) at the top", () -> Trees.busy("a(b)", 0), x -> x.beside(1, 0), -2);
        doc.refused("beside of a new object", TreePlaces::new, x -> x.beside(1, 0), -2);
        doc.says("LIMIT_REACHED if there are 40 nodes, or the node above has 6 children.");
        for (int right = 0; right < 2; right++) {
            int way = right;
            doc.refused("beside with 40 nodes", () -> Trees.at(Trees.full(), 38), x -> x.beside(way, 0), -3);
            doc.refused("beside the first of six", () -> Trees.busy(SIX, 1), x -> x.beside(way, 0), -3);
            doc.refused("beside the last of six", () -> Trees.busy(SIX, 6), x -> x.beside(way, 0), -3);
            doc.is("beside one of five", Trees.at(Trees.row("a", "b", 5), 3).beside(way, 0), 6);
            TreePlaces x = Trees.at(Trees.full(), 39);
            x.delete();
            doc.is("beside with 39 nodes", x.beside(way, 0), 3);
            doc.is("nodes", x.count(0), 40);
        }
        // How many children the place has does not matter, nor how deep it is.
        doc.is("beside a node with six children", Trees.at("a(b(c,c,c,c,c,c))", 1).beside(1, 0), 2);
        doc.is("beside at depth 7", Trees.at(EIGHT_DEEP, 7).beside(1, 0), 2);
    }

    private void delete() {
        doc.says("Takes the part at the place out.");
        TreePlaces x = Trees.at("a(b,c(d(e),f),g)", 2);
        x.delete();
        doc.is("tree", Trees.told(x), "a(b,g)");
        doc.says("Returns how many nodes are gone");
        doc.is("delete() of a leaf", Trees.at("a(b,c)", 1).delete(), 1);
        doc.is("delete() of a part", Trees.at("a(b,c(d(e),f),g)", 2).delete(), 4);
        doc.is("delete() of all but the top", Trees.at("a(" + Trees.chain("bcdefgh") + ")", 1).delete(), 7);
        doc.says("NOT_POSSIBLE at the top.");
        doc.refused("delete() at the top", () -> Trees.busy("a(b)", 0), TreePlaces::delete, -2);
        doc.refused("delete() of a new object", TreePlaces::new, TreePlaces::delete, -2);
    }

    private void deletePlace() {
        doc.says("The place is the next child of the node above then");
        placeAfterDelete("a(b(e),c(f),d(g))", 1, 'c');
        placeAfterDelete("a(b(e),c(f),d(g))", 3, 'd');
        doc.says("if there is none, the one ahead");
        placeAfterDelete("a(b(e),c(f),d(g))", 5, 'c');
        placeAfterDelete("a(b(c,d(e)),f(g(h)))", 3, 'c');
        doc.says("if there is none either, the node above.");
        placeAfterDelete("a(b(c(d)),e)", 2, 'b');
        placeAfterDelete("a(b)", 1, 'a');
        placeAfterDelete("a(b,c(d))", 3, 'c');
    }

    private void placeAfterDelete(String text, int number, char letter) {
        TreePlaces x = Trees.at(text, number);
        int walks = x.count(5);
        x.delete();
        doc.is("letter of the place after delete() in " + text, x.nodeOf(x.count(1), 0), letter - 'a');
        doc.is("places put down", x.count(5), walks);
    }

    private void wrap() {
        doc.says("Puts a node in above the place, in place of it, with what was there as its only child.");
        TreePlaces x = Trees.at("a(b,c(d,e),f)", 2);
        x.wrap(25);
        doc.is("tree", Trees.told(x), "a(b,z(c(d,e)),f)");
        TreePlaces y = Trees.of("a(b,c)");
        y.wrap(25);
        doc.is("tree with another top", Trees.told(y), "z(a(b,c))");
        doc.says("The place is the new node then.");
        doc.is("place", x.count(1), 2);
        doc.is("its letter", x.nodeOf(2, 0), 25);
        doc.is("place at the new top", y.count(1), 0);
        doc.is("its children", y.nodeOf(0, 1), 1);
        doc.says("`letter`: 0 to 25");
        TreePlaces z = Trees.of("b");
        z.wrap(0);
        z.wrap(25);
        doc.is("tree of three", Trees.told(z), "z(a(b))");
        doc.says("Returns the number of nodes then");
        TreePlaces nodes = Trees.at("a(b,c)", 2);
        doc.is("wrap(1)", nodes.wrap(1), 4);
        doc.is("wrap(1) again", nodes.wrap(1), 5);
        doc.is("wrap(1) of a new object", new TreePlaces().wrap(1), 2);
        doc.says("INVALID_ARGUMENT if letter is out of range");
        for (int wrong : NO_LETTERS) {
            doc.refused("wrap(" + wrong + ")", () -> Trees.busy("a(b(c),d)", 1), w -> w.wrap(wrong), -1);
        }
    }

    private void wrapLimits() {
        doc.says("LIMIT_REACHED if there are 40 nodes, or a node of the part would have a depth above 7.");
        doc.refused("wrap() of the top of 40 nodes", () -> Trees.of(Trees.full()), x -> x.wrap(1), -3);
        doc.refused("wrap() of a leaf of 40 nodes", () -> Trees.at(Trees.full(), 39), x -> x.wrap(1), -3);
        TreePlaces x = Trees.at(Trees.full(), 39);
        x.delete();
        doc.is("wrap() with 39 nodes", x.wrap(1), 40);
        for (int number = 0; number < 8; number++) {
            int which = number;
            doc.refused("wrap() of a node in a chain to depth 7", () -> Trees.at(EIGHT_DEEP, which), y -> y.wrap(1), -3);
        }
        for (int number = 0; number < 7; number++) {
            doc.is("wrap() of a node in a chain to depth 6", Trees.at(Trees.chain("abcdefg"), number).wrap(1), 8);
        }
        // Depth 7 elsewhere does not matter, but in the part itself, also in its middle.
        doc.is("wrap() beside depth 7", Trees.at("a(b,c(d(e(f(g(h(i)))))))", 1).wrap(1), 10);
        doc.refused("wrap() over depth 7", () -> Trees.at("a(b(c(d(e(f(g(h,i))))),j),k)", 1), y -> y.wrap(1), -3);
        doc.is("greatest depth of all", wrappedAtDepthSix().count(4), 7);
    }

    private static TreePlaces wrappedAtDepthSix() {
        TreePlaces x = Trees.at(Trees.chain("abcdefg"), 6);
        x.wrap(1);
        return x;
    }
}
