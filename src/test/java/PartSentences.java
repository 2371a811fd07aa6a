import java.util.function.ToIntFunction;

/** The sentences of promises 13 to 17: nodes that are lifted, parts that are exchanged, cut, copied and pasted. */
final class PartSentences {
    private static final int[] NO_CHOICES = {-1, 2, Integer.MIN_VALUE, Integer.MAX_VALUE};
    private static final String EIGHT_DEEP = Trees.chain("abcdefgh");

    private final Sentences doc;

    PartSentences(Sentences doc) {
        this.doc = doc;
    }

    void run() {
        doc.in("Promise 13");
        lift();
        liftPlace();
        liftRefused();
        doc.in("Promise 14");
        exchange();
        exchangeRefused();
        doc.in("Promise 15");
        cut();
        doc.in("Promise 16");
        copy();
        doc.in("Promise 17");
        paste();
        pasteArguments();
        pasteNodes();
        pasteChildrenAndDepth();
    }

    private void lift() {
        doc.says("Takes the node at the place out; its children come in its place.");
        TreePlaces x = Trees.at("a(b,c(d(e),f),g)", 2);
        x.lift();
        doc.is("tree", Trees.told(x), "a(b,d(e),f,g)");
        TreePlaces y = Trees.at("a(b,c,d)", 2);
        y.lift();
        doc.is("tree without a leaf", Trees.told(y), "a(b,d)");
        TreePlaces z = Trees.of("a(b(c,d))");
        z.lift();
        doc.is("tree without its top", Trees.told(z), "b(c,d)");
        doc.says("Returns how many children come");
        for (int children = 0; children <= 6; children++) {
            TreePlaces w = Trees.at("a(" + Trees.row("b", "c(d)", children) + ")", 1);
            doc.is("lift()", w.lift(), children);
        }
        doc.is("lift() of the top", Trees.of("a(b(c,d))").lift(), 1);
    }

    private void liftPlace() {
        doc.says("The place is the first of them then");
        placeAfterLift("a(b,c(d(e),f),g)", 2, 'd', 2);
        placeAfterLift("a(b,c(d),g)", 2, 'd', 2);
        placeAfterLift("a(b(c,d))", 0, 'b', 0);
        doc.says("or, if there is none, as by delete().");
        placeAfterLift("a(b(e),c,d(f))", 3, 'd', 3);
        placeAfterLift("a(b(e),c(f),d)", 5, 'c', 3);
        placeAfterLift("a(b(c),d)", 2, 'b', 1);
    }

    private void placeAfterLift(String text, int number, char letter, int numberThen) {
        TreePlaces x = Trees.at(text, number);
        int walks = x.count(5);
        x.lift();
        doc.is("place after lift() in " + text, x.count(1), numberThen);
        doc.is("its letter", x.nodeOf(numberThen, 0), letter - 'a');
        doc.is("places put down", x.count(5), walks);
    }

    private void liftRefused() {
        doc.says("NOT_POSSIBLE at the top, but for one with one child");
        doc.refused("lift() of a top without a child", TreePlaces::new, TreePlaces::lift, -2);
        doc.is("lift() of a top with one child", Trees.of("a(b)").lift(), 1);
        doc.is("lift() of a top with one child that has six", Trees.of("a(b(c,c,c,c,c,c))").lift(), 1);
        String thirtyNine = Trees.full().replaceAll(",c..$", "))");
        doc.is("lift() of a top with one child, of 40 nodes", Trees.of("z(" + thirtyNine + ")").lift(), 1);
        doc.is("lift() of a top of a chain to depth 7", Trees.of(EIGHT_DEEP).lift(), 1);
        doc.refused("lift() of a top with two children", () -> Trees.busy("a(b,c)", 0), TreePlaces::lift, -2);
        doc.refused("lift() of a top with six", () -> Trees.of(Trees.row("a", "b", 6)), TreePlaces::lift, -2);
        doc.says("LIMIT_REACHED if the node above would have more than 6 children.");
        doc.refused("lift() of two to seven", () -> Trees.busy("a(b(c,c),d,d,d,d,d)", 1), TreePlaces::lift, -3);
        doc.refused("lift() of three to eight", () -> Trees.busy("a(d,d,d,d,d,b(c,c,c))", 6), TreePlaces::lift, -3);
        doc.refused("lift() of six to seven", () -> Trees.busy("a(b(c,c,c,c,c,c),d)", 1), TreePlaces::lift, -3);
        doc.is("lift() of six to six", Trees.at("a(b(c,c,c,c,c,c))", 1).lift(), 6);
        doc.is("lift() of two to six", Trees.at("a(b(c,c),d,d,d,d)", 1).lift(), 2);
        doc.is("lift() of one of six", Trees.at("a(b(c),d,d,d,d,d)", 1).lift(), 1);
        doc.is("lift() of none of six", Trees.at("a(b,d,d,d,d,d)", 1).lift(), 0);
    }

    private void exchange() {
        doc.says("Exchanges the part at the place with that beside it.");
        TreePlaces x = Trees.at("a(b(c,d),e(f),g)", 1);
        x.exchange(1);
        doc.is("tree", Trees.told(x), "a(e(f),b(c,d),g)");
        doc.says("The place stays at its node.");
        doc.is("place", x.count(1), 3);
        doc.is("its letter", x.nodeOf(3, 0), 1);
        doc.is("places put down", x.count(5), 1);
        TreePlaces y = Trees.at("a(b(c,d),e(f),g)", 4);
        y.exchange(0);
        doc.is("place after exchange(0)", y.count(1), 1);
        doc.is("letter after exchange(0)", y.nodeOf(1, 0), 4);
        doc.says("`right`: 1: with the next child; 0: with the one ahead");
        TreePlaces next = Trees.at("a(b,c,d)", 2);
        next.exchange(1);
        doc.is("tree after exchange(1)", Trees.told(next), "a(b,d,c)");
        TreePlaces ahead = Trees.at("a(b,c,d)", 2);
        ahead.exchange(0);
        doc.is("tree after exchange(0)", Trees.told(ahead), "a(c,b,d)");
        doc.says("Returns which child it is then");
        TreePlaces z = Trees.at("a(b(c),d(e),f,g,h(i),j)", 1);
        for (int child = 1; child < 6; child++) {
            doc.is("exchange(1)", z.exchange(1), child);
        }
        for (int child = 4; child >= 0; child--) {
            doc.is("exchange(0)", z.exchange(0), child);
        }
        doc.is("tree at last", Trees.told(z), "a(b(c),d(e),f,g,h(i),j)");
    }

    private void exchangeRefused() {
        doc.says("INVALID_ARGUMENT if right is out of range");
        for (int wrong : NO_CHOICES) {
            doc.refused("exchange(" + wrong + ")", () -> Trees.busy("a(b,c,d)", 2), x -> x.exchange(wrong), -1);
        }
        doc.says("NOT_POSSIBLE if there is none.");
        doc.refused("exchange(0) of the first", () -> Trees.busy("a(b,c)", 1), x -> x.exchange(0), -2);
        doc.refused("exchange(1) of the last", () -> Trees.busy("a(b,c)", 2), x -> x.exchange(1), -2);
        for (int right = 0; right < 2; right++) {
            int way = right;
            doc.refused("exchange(" + way + ") at the top", () -> Trees.busy("a(b,c)", 0), x -> x.exchange(way), -2);
            doc.refused("exchange(" + way + ") of a new object", TreePlaces::new, x -> x.exchange(way), -2);
            doc.refused("exchange(" + way + ") of an only child", () -> Trees.at("a(b)", 1), x -> x.exchange(way), -2);
        }
        doc.refused("exchange(1) ahead of another row", () -> Trees.at("a(b(c),d(e))", 2), x -> x.exchange(1), -2);
        doc.refused("exchange(0) behind another row", () -> Trees.at("a(b(c),d(e))", 4), x -> x.exchange(0), -2);
    }

    private void cut() {
        doc.says("Cuts the part at the place: it is the clip then");
        TreePlaces x = Trees.at("a(b(c,d(e)),f)", 1);
        x.cut();
        doc.is("nodes of the clip", x.count(6), 4);
        x.paste(0);
        doc.is("tree with the clip", Trees.told(x), "a(f(b(c,d(e))))");
        doc.says("and is taken out as by delete().");
        asByDelete("a(b(e),c(f),d(g))", 1);
        asByDelete("a(b(e),c(f),d(g))", 5);
        asByDelete("a(b(c(d)),e)", 2);
        doc.says("Returns how many nodes it has");
        doc.is("cut() of a leaf", Trees.at("a(b)", 1).cut(), 1);
        doc.is("cut() of a part", Trees.at("a(b(c,d(e)),f)", 1).cut(), 4);
        String thirtyNine = Trees.full().replaceAll(",c..$", "))");
        doc.is("cut() of all but the top", Trees.at("z(" + thirtyNine + ")", 1).cut(), 39);
        doc.says("NOT_POSSIBLE at the top.");
        doc.refused("cut() at the top", () -> Trees.busy("a(b)", 0), TreePlaces::cut, -2);
        doc.refused("cut() of a new object", TreePlaces::new, TreePlaces::cut, -2);
    }

    private void asByDelete(String text, int number) {
        TreePlaces cut = Trees.at(text, number);
        TreePlaces deleted = Trees.at(text, number);
        doc.is("cut()", cut.cut(), deleted.delete());
        doc.is("tree", Trees.told(cut), Trees.told(deleted));
        doc.is("place", cut.count(1), deleted.count(1));
        doc.is("places put down", cut.count(5), deleted.count(5));
    }

    private void copy() {
        doc.says("Makes a copy of the part at the place the clip.");
        TreePlaces x = Trees.at("a(b(c,d(e)),f)", 1);
        x.copy();
        doc.is("tree", Trees.told(x), "a(b(c,d(e)),f)");
        doc.is("nodes of the clip", x.count(6), 4);
        x.letter(25);
        x.down(0);
        x.delete();
        x.top();
        x.paste(2);
        doc.is("tree with the copy", Trees.told(x), "a(z(d(e)),f,b(c,d(e)))");
        doc.says("Returns how many nodes it has.");
        doc.is("copy() of one node", new TreePlaces().copy(), 1);
        doc.is("copy() of a part", Trees.at("a(b(c,d(e)),f)", 1).copy(), 4);
        doc.is("copy() of 40", Trees.of(Trees.full()).copy(), 40);
        doc.is("copy() of 8, one below the other", Trees.of(EIGHT_DEEP).copy(), 8);
        TreePlaces y = Trees.of(Trees.full());
        y.copy();
        y.down(0);
        doc.is("copy() of less", y.copy(), 7);
        doc.is("the clip is no more", y.count(6), 7);
    }

    private static TreePlaces withClip(String text, int clip, int place) {
        TreePlaces x = Trees.at(text, clip);
        x.copy();
        if (x.count(1) != 0) {
            x.top();
        }
        Trees.walkDown(x, place);
        return x;
    }

    private void paste() {
        doc.says("Pastes the clip as a child of the place");
        TreePlaces x = withClip("a(b(c,d),e(f))", 1, 4);
        x.paste(1);
        doc.is("tree", Trees.told(x), "a(b(c,d),e(f,b(c,d)))");
        doc.says("those from there on have numbers that are greater by 1.");
        for (int child = 0; child <= 3; child++) {
            TreePlaces y = withClip("a(b,c,d(z(e)))", 4, 0);
            y.paste(child);
            doc.is("which child b is", y.nodeOf(y.find(1), 5), child <= 0 ? 1 : 0);
            doc.is("which child c is", y.nodeOf(y.find(2), 5), child <= 1 ? 2 : 1);
            doc.is("which child d is", y.nodeOf(y.find(3), 5), child <= 2 ? 3 : 2);
            doc.is("number of d", y.find(3), child <= 2 ? 5 : 3);
        }
        doc.says("The place stays.");
        TreePlaces z = withClip("a(b(c),d)", 2, 1);
        int walks = z.count(5);
        z.paste(0);
        doc.is("place", z.count(1), 1);
        doc.is("its letter", z.nodeOf(1, 0), 1);
        doc.is("places put down", z.count(5), walks);
    }

    private void pasteArguments() {
        doc.says("`child`: 0 to as many children as there are: which child it is then");
        for (int child = 0; child <= 5; child++) {
            TreePlaces x = withClip("a(b(z),c,d,e,f)", 2, 0);
            doc.is("paste(" + child + ")", x.paste(child), 8);
            doc.is("which child it is", x.nodeOf(x.down(child), 0), 25);
        }
        doc.is("paste(0) of none", withClip("a(b)", 1, 1).paste(0), 3);
        doc.says("Returns the number of nodes then");
        TreePlaces y = withClip("a(b(c,d),e)", 1, 0);
        for (int nodes = 8; nodes <= 17; nodes += 3) {
            doc.is("paste(0)", y.paste(0), nodes);
            doc.is("nodes", y.count(0), nodes);
        }
        doc.says("INVALID_ARGUMENT if child is out of range");
        for (int wrong : new int[] {-1, 3, 7, Integer.MIN_VALUE, Integer.MAX_VALUE}) {
            doc.refused("paste(" + wrong + ")", () -> Trees.busy("a(b(c),d)", 0), x -> x.paste(wrong), -1);
        }
        doc.refused("paste(1) of none", () -> Trees.busy("a(b)", 1), x -> x.paste(1), -1);
        doc.says("NOT_POSSIBLE if there is no clip");
        doc.refused("paste(0) of a new object", TreePlaces::new, x -> x.paste(0), -2);
        doc.refused("paste(2) without a clip", () -> Trees.of("a(b,c)"), x -> x.paste(2), -2);
        doc.refused("paste(0) after delete()", () -> {
            TreePlaces x = Trees.at("a(b)", 1);
            x.delete();
            return x;
        }, x -> x.paste(0), -2);
        doc.refused("paste(0) after undo() of copy()", () -> {
            TreePlaces x = new TreePlaces();
            x.copy();
            x.undo();
            return x;
        }, x -> x.paste(0), -2);
    }

    /** A top, six children of it, and the other nodes below the first ones; the sixth has none below. */
    private static String broad(int nodes) {
        StringBuilder text = new StringBuilder("a(");
        int left = nodes - 7;
        for (int child = 0; child < 6; child++) {
            int below = Math.min(left, 6);
            text.append(child > 0 ? "," : "").append(Trees.row("b", "c", below));
            left -= below;
        }
        return text.append(')').toString();
    }

    private void pasteNodes() {
        doc.says("LIMIT_REACHED if there would be more than 40 nodes");
        // The clip is the first child with six below: seven nodes; it is pasted at the last child.
        doc.is("paste() to 40", withClip(broad(33), 1, 32).paste(0), 40);
        doc.refused("paste() to 41", () -> withClip(broad(34), 1, 33), x -> x.paste(0), -3);
        doc.refused("paste() to 43", () -> withClip(broad(36), 1, 35), x -> x.paste(0), -3);
        doc.is("paste() of one to 40", withClip(broad(39), 2, 36).paste(0), 40);
        doc.refused("paste() of one to 41", () -> withClip(Trees.full(), 2, 36), x -> x.paste(0), -3);
        doc.is("paste() of 20 to 40", withClip(broad(20), 0, 19).paste(0), 40);
        doc.refused("paste() of 21 to 42", () -> withClip(broad(21), 0, 20), x -> x.paste(0), -3);
    }

    private void pasteChildrenAndDepth() {
        doc.says("or 6 children");
        for (int child = 0; child <= 6; child++) {
            int which = child;
            ToIntFunction<TreePlaces> paste = x -> x.paste(which);
            doc.refused("paste(" + child + ") at six", () -> withClip(Trees.row("a", "b", 6), 1, 0), paste, -3);
        }
        doc.is("paste(5) at five", withClip(Trees.row("a", "b", 5), 1, 0).paste(5), 7);
        doc.is("paste(0) below six", withClip(Trees.row("a", "b", 6), 1, 6).paste(0), 8);
        doc.says("or a depth above 7.");
        doc.is("paste() of a leaf at depth 6", withClip(EIGHT_DEEP, 7, 6).paste(0), 9);
        doc.refused("paste() of a leaf at depth 7", () -> withClip(EIGHT_DEEP, 7, 7), x -> x.paste(0), -3);
        for (int number = 0; number < 8; number++) {
            // A part of the chain has the height 7 - number, and stands a depth below where it is pasted.
            int place = number;
            String chain = EIGHT_DEEP;
            if (number > 0) {
                doc.is("paste() to depth 7", withClip(chain, number, number - 1).paste(0), 8 + 8 - number);
            }
            doc.refused("paste() to depth 8", () -> withClip(chain, place, place), x -> x.paste(0), -3);
        }
        doc.is("greatest depth", pastedToDepthSeven().count(4), 7);
    }

    private static TreePlaces pastedToDepthSeven() {
        TreePlaces x = withClip("a(b(c(d)),e(f(g(h(i)))))", 1, 7);
        x.paste(0);
        return x;
    }
}
