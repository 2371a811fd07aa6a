/** Promises 8 to 17: changes of the tree. */
public final class ChangesTest {
    private static final Due due = new Due("ChangesTest");
    private static final int[] NO_CHOICES = {-1, 2, Integer.MIN_VALUE, Integer.MAX_VALUE};
    private static final int[] NO_LETTERS = {-1, 26, Integer.MIN_VALUE, Integer.MAX_VALUE};

    public static void main(String[] args) {
        letter();
        child();
        childAtLimits();
        beside();
        besideAtLimits();
        delete();
        wrap();
        lift();
        exchange();
        cut();
        copy();
        paste();
        pasteAtLimits();
        due.end();
    }

    private static void letter() {
        TreePlaces x = Trees.of("a(b,c)");
        x.down(1);
        String before = Trees.all(x);
        for (int wrong : NO_LETTERS) {
            due.is("letter(" + wrong + ")", x.letter(wrong), -1);
        }
        due.is("state after errors of letter", Trees.all(x), before);
        due.is("letter(25)", x.letter(25), 2);
        due.is("letter(0)", x.letter(0), 25);
        due.is("letter(0) again", x.letter(0), 0);
        due.is("tree", Trees.told(x), "a(b,a)");
        due.is("place", x.count(1), 2);
        due.is("states", x.count(7), 4);
    }

    private static void child() {
        TreePlaces x = Trees.of("a(b(c))");
        String before = Trees.all(x);
        due.is("child(-1, 0)", x.child(-1, 0), -1);
        due.is("child(2, 0)", x.child(2, 0), -1);
        due.is("child(greatest, 0)", x.child(Integer.MAX_VALUE, 0), -1);
        for (int wrong : NO_LETTERS) {
            due.is("child(0, " + wrong + ")", x.child(0, wrong), -1);
        }
        due.is("state after errors of child", Trees.all(x), before);
        due.is("child(1, 3)", x.child(1, 3), 2);
        due.is("child(0, 4)", x.child(0, 4), 3);
        due.is("child(2, 25)", x.child(2, 25), 4);
        due.is("tree", Trees.told(x), "a(e,b(c),z,d)");
        due.is("the place stays", x.count(1), 0);
        due.is("no walk", x.count(5), 0);
        x.down(1);
        due.is("child(0, 0) below", x.child(0, 0), 2);
        due.is("child(2, 1) below", x.child(2, 1), 3);
        due.is("tree then", Trees.told(x), "a(e,b(a,c,b),z,d)");
    }

    private static void childAtLimits() {
        TreePlaces x = Trees.of(Trees.row("a", "b", 5));
        due.is("the sixth child", x.child(5, 2), 6);
        String before = Trees.all(x);
        due.is("the seventh child", x.child(6, 2), -3);
        due.is("the seventh child, ahead", x.child(0, 2), -3);
        due.is("beyond the seventh child", x.child(7, 2), -1);
        due.is("a wrong letter rather", x.child(6, 26), -1);
        due.is("state after errors of child", Trees.all(x), before);

        x = Trees.of(Trees.chain("abcdefg"));
        for (int depth = 0; depth < 6; depth++) {
            x.down(0);
        }
        due.is("child at depth 6", x.child(0, 7), 1);
        x.down(0);
        due.is("child at depth 7", x.child(0, 7), -3);
        due.is("child(1, 7) at depth 7", x.child(1, 7), -1);

        x = Trees.of(Trees.full());
        x.down(5);
        due.is("the forty-first node", x.child(0, 0), -3);
        x.down(0);
        x.delete();
        x.up();
        due.is("the fortieth node", x.child(0, 0), 3);
        due.is("nodes", x.count(0), 40);
    }

    private static void beside() {
        TreePlaces x = Trees.of("a(b(c),d)");
        String before = Trees.all(x);
        due.is("beside at the top", x.beside(1, 0), -2);
        due.is("beside(2, 0) at the top", x.beside(2, 0), -1);
        due.is("beside(0, 26) at the top", x.beside(0, 26), -1);
        due.is("state after errors at the top", Trees.all(x), before);
        x.down(0);
        x.mark(1);
        before = Trees.all(x);
        for (int wrong : NO_CHOICES) {
            due.is("beside(" + wrong + ", 0)", x.beside(wrong, 0), -1);
        }
        for (int wrong : NO_LETTERS) {
            due.is("beside(1, " + wrong + ")", x.beside(1, wrong), -1);
        }
        due.is("state after errors of beside", Trees.all(x), before);
        due.is("beside(1, 4)", x.beside(1, 4), 3);
        due.is("the place stays", x.count(1), 1);
        due.is("beside(0, 5)", x.beside(0, 5), 4);
        due.is("the place stays at its node", x.count(1), 2);
        due.is("the mark too", x.marked(1), 2);
        due.is("tree", Trees.told(x), "a(f,b(c),e,d)");
        due.is("no walk", x.count(5), 1);
    }

    private static void besideAtLimits() {
        TreePlaces x = Trees.of(Trees.row("a", "b", 5));
        x.down(4);
        due.is("beside as the sixth", x.beside(1, 2), 6);
        String before = Trees.all(x);
        due.is("beside as the seventh", x.beside(1, 2), -3);
        due.is("beside as the seventh, ahead", x.beside(0, 2), -3);
        due.is("a wrong letter rather", x.beside(0, -1), -1);
        due.is("state after errors of beside", Trees.all(x), before);

        x = Trees.of(Trees.full());
        due.is("beside at a full tree's top", x.beside(0, 0), -2);
        x.down(5);
        x.down(0);
        due.is("beside as the forty-first", x.beside(0, 0), -3);

        x = Trees.of(Trees.chain("abcdefgh"));
        for (int depth = 0; depth < 7; depth++) {
            x.down(0);
        }
        due.is("beside at depth 7", x.beside(0, 8), 2);
    }

    private static void delete() {
        TreePlaces x = Trees.of("a(b(c,d),e(f),g)");
        String before = Trees.all(x);
        due.is("delete at the top", x.delete(), -2);
        due.is("state after an error of delete", Trees.all(x), before);
        x.down(1);
        due.is("delete in the middle", x.delete(), 2);
        due.is("place at the next", x.count(1), 4);
        due.is("tree", Trees.told(x), "a(b(c,d),g)");
        due.is("delete of the last", x.delete(), 1);
        due.is("place at the one ahead, not below it", x.count(1), 1);
        due.is("tree then", Trees.told(x), "a(b(c,d))");
        due.is("delete of the only one", x.delete(), 3);
        due.is("place at the node above", x.count(1), 0);
        due.is("tree at last", Trees.told(x), "a");
        due.is("no walk", x.count(5), 1);

        x = Trees.of("a(b(c),d)");
        x.down(0);
        x.down(0);
        due.is("delete of an only child ahead of others", x.delete(), 1);
        due.is("place above, not at the next number", x.count(1), 1);
    }

    private static void wrap() {
        TreePlaces x = Trees.of("a(b(c),d)");
        x.mark(0);
        String before = Trees.all(x);
        for (int wrong : NO_LETTERS) {
            due.is("wrap(" + wrong + ")", x.wrap(wrong), -1);
        }
        due.is("state after errors of wrap", Trees.all(x), before);
        due.is("wrap(25) at the top", x.wrap(25), 5);
        due.is("place at the new top", x.count(1), 0);
        due.is("mark stays with its node", x.marked(0), 1);
        due.is("tree", Trees.told(x), "z(a(b(c),d))");
        x.down(0);
        x.down(0);
        due.is("wrap(0) below", x.wrap(0), 6);
        due.is("place at the new node", x.count(1), 2);
        due.is("tree then", Trees.told(x), "z(a(a(b(c)),d))");
        due.is("no walk", x.count(5), 2);

        x = Trees.of("a(b,c(d(e(f(g(h))))))");
        due.is("wrap of a part of depth 6", x.wrap(0), 9);
        before = Trees.all(x);
        due.is("wrap of a part of depth 7", x.wrap(0), -3);
        due.is("wrap with a wrong letter rather", x.wrap(26), -1);
        due.is("state after an error of wrap", Trees.all(x), before);
        x.down(0);
        x.down(0);
        due.is("wrap of a part that is not deep", x.wrap(0), 10);
        x.side(1);
        due.is("wrap of the deep part below", x.wrap(0), -3);

        x = Trees.of(Trees.full());
        due.is("wrap as the forty-first", x.wrap(0), -3);
        x.down(0);
        x.down(0);
        x.delete();
        due.is("wrap as the fortieth", x.wrap(0), 40);
    }

    private static void lift() {
        TreePlaces x = Trees.of("a(b,c(d(e),f),g)");
        String before = Trees.all(x);
        due.is("lift at a top with three children", x.lift(), -2);
        due.is("state after an error of lift", Trees.all(x), before);
        x.down(1);
        due.is("lift of a node with two children", x.lift(), 2);
        due.is("tree", Trees.told(x), "a(b,d(e),f,g)");
        due.is("place at the first", x.count(1), 2);
        due.is("lift of a node with one child", x.lift(), 1);
        due.is("lift of a leaf", x.lift(), 0);
        due.is("tree then", Trees.told(x), "a(b,f,g)");
        due.is("place at the next", x.count(1), 2);
        x.side(1);
        due.is("lift of the last leaf", x.lift(), 0);
        due.is("place at the one ahead", x.count(1), 2);
        x.lift();
        x.lift();
        due.is("place at the node above", x.count(1), 0);
        due.is("lift of a top without children", x.lift(), -2);

        x = Trees.of("a(b(c,d))");
        x.mark(0);
        due.is("lift of a top with one child", x.lift(), 1);
        due.is("tree of the child", Trees.told(x), "b(c,d)");
        due.is("place at the top", x.count(1), 0);
        due.is("the mark is at none", x.marked(0), -4);
        due.is("lift of a top with two children", x.lift(), -2);

        x = Trees.of("a(b(c,d,e),f,f,f)");
        x.down(0);
        due.is("lift to six children", x.lift(), 3);
        due.is("six children", x.nodeOf(0, 1), 6);
        x = Trees.of("a(f,f,f,f,b(c,d,e))");
        x.down(4);
        before = Trees.all(x);
        due.is("lift to seven children", x.lift(), -3);
        due.is("state after an error of lift", Trees.all(x), before);
    }

    private static void exchange() {
        TreePlaces x = Trees.of("a(b(c,d),e,f(g))");
        due.is("exchange(0) at the top", x.exchange(0), -2);
        due.is("exchange(1) at the top", x.exchange(1), -2);
        x.down(0);
        x.mark(2);
        String before = Trees.all(x);
        for (int wrong : NO_CHOICES) {
            due.is("exchange(" + wrong + ")", x.exchange(wrong), -1);
        }
        due.is("exchange(0) at the first", x.exchange(0), -2);
        due.is("state after errors of exchange", Trees.all(x), before);
        due.is("exchange(1)", x.exchange(1), 1);
        due.is("tree", Trees.told(x), "a(e,b(c,d),f(g))");
        due.is("place stays at its node", x.count(1), 2);
        due.is("exchange(1) again", x.exchange(1), 2);
        due.is("tree then", Trees.told(x), "a(e,f(g),b(c,d))");
        due.is("place then", x.count(1), 4);
        due.is("mark then", x.marked(2), 4);
        due.is("exchange(1) at the last", x.exchange(1), -2);
        x.side(0);
        due.is("exchange(0)", x.exchange(0), 0);
        due.is("tree at last", Trees.told(x), "a(f(g),e,b(c,d))");
        due.is("place at last", x.count(1), 1);
        due.is("walks are made by side alone", x.count(5), 2);
    }

    private static void cut() {
        TreePlaces x = Trees.of("a(b(c,d),e)");
        String before = Trees.all(x);
        due.is("cut at the top", x.cut(), -2);
        due.is("state after an error of cut", Trees.all(x), before);
        x.down(0);
        due.is("cut", x.cut(), 3);
        due.is("tree", Trees.told(x), "a(e)");
        due.is("place at the next", x.count(1), 1);
        due.is("nodes of the clip", x.count(6), 3);
        x.paste(0);
        due.is("what was cut", Trees.told(x), "a(e(b(c,d)))");
        due.is("cut of another", x.cut(), 4);
        due.is("place above", x.count(1), 0);
        due.is("the other clip", x.count(6), 4);
        due.is("cut of nothing leaves the clip", x.cut(), -2);
        due.is("the other clip stays", x.count(6), 4);
        x.paste(0);
        due.is("the other", Trees.told(x), "a(e(b(c,d)))");
    }

    private static void copy() {
        TreePlaces x = Trees.of("a(b(c,d),e)");
        due.is("copy at the top", x.copy(), 5);
        due.is("nodes of the clip", x.count(6), 5);
        due.is("tree is as it was", Trees.told(x), "a(b(c,d),e)");
        x.down(0);
        due.is("copy below", x.copy(), 3);
        due.is("the clip then", x.count(6), 3);
        // The clip is a copy: what becomes of the part does not matter to it.
        x.letter(25);
        x.delete();
        x.paste(0);
        due.is("the part as it was copied", Trees.told(x), "a(e(b(c,d)))");
        due.is("copy is recorded", x.count(7), 4);
    }

    private static void paste() {
        TreePlaces x = Trees.of("a(b(c),d)");
        String before = Trees.all(x);
        due.is("paste without a clip", x.paste(0), -2);
        due.is("paste(-1) without a clip", x.paste(-1), -1);
        due.is("paste(3) without a clip", x.paste(3), -1);
        due.is("state after errors of paste", Trees.all(x), before);
        x.down(0);
        x.mark(0);
        x.mark(1);
        x.copy();
        x.up();
        due.is("paste(1)", x.paste(1), 6);
        due.is("tree", Trees.told(x), "a(b(c),b(c),d)");
        due.is("paste(3)", x.paste(3), 8);
        due.is("paste(0)", x.paste(0), 10);
        due.is("paste(6)", x.paste(6), -1);
        due.is("tree then", Trees.told(x), "a(b(c),b(c),b(c),d,b(c))");
        due.is("the place stays", x.count(1), 0);
        due.is("the mark stays with its node", x.marked(0), 3);
        // What is pasted has new nodes: a mark at a node that was cut is at none for good.
        x.goTo(1);
        x.cut();
        due.is("mark at a node that was cut", x.marked(0), -4);
        x.paste(1);
        due.is("mark after the paste", x.marked(0), -4);
        due.is("pasted into a part like it", Trees.told(x), "a(b(c),b(c,b(c)),d,b(c))");
    }

    private static void pasteAtLimits() {
        TreePlaces x = Trees.of(Trees.row("a", "b", 6));
        x.down(0);
        x.copy();
        x.up();
        String before = Trees.all(x);
        due.is("paste of a seventh child", x.paste(6), -3);
        due.is("paste(7) rather", x.paste(7), -1);
        due.is("state after an error of paste", Trees.all(x), before);

        x = Trees.of("a(b(c(d)),e(f(g(h(i)))))");
        x.down(0);
        x.copy();
        for (int number = 1; number < 7; number++) {
            x.step(1);
        }
        due.is("paste to depth 7", x.paste(0), 12);
        due.is("the greatest depth", x.count(4), 7);
        x.down(0);
        due.is("paste to depth 8", x.paste(0), -3);

        // 20 nodes and a clip of 20, then of 21.
        x = Trees.of("a(" + Trees.row("b", "c", 6) + "," + Trees.row("b", "c", 6) + "," + Trees.row("b", "c", 4) + ")");
        due.is("copy of 20", x.copy(), 20);
        x.down(2);
        due.is("paste to 40", x.paste(4), 40);
        x.undo();
        x.child(0, 9);
        due.is("paste to 41", x.paste(4), -3);
    }
}
