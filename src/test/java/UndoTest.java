/** Promise 27, and what "Changes and errors" says of the history. */
public final class UndoTest {
    private static final Due due = new Due("UndoTest");

    public static void main(String[] args) {
        undoOfEachCall();
        notRecorded();
        atMostFour();
        undoAndTheText();
        undoBringsNodesBack();
        due.end();
    }

    /** A place in the middle, with walks, a clip and marks, so that each call is possible there. */
    private static TreePlaces ready() {
        TreePlaces x = Trees.of("a(b,c(d,e(f)),g)");
        x.down(1);
        x.mark(2);
        x.down(1);
        x.copy();
        x.mark(0);
        x.up();
        Trees.type(x, "a(b,c)");
        return x;
    }

    private static final int RECORDED = 19;

    private static int call(TreePlaces x, int which) {
        switch (which) {
            case 0: return x.down(0);
            case 1: return x.up();
            case 2: return x.side(1);
            case 3: return x.step(1);
            case 4: return x.top();
            case 5: return x.back();
            case 6: return x.letter(3);
            case 7: return x.child(1, 4);
            case 8: return x.beside(0, 5);
            case 9: return x.delete();
            case 10: return x.wrap(6);
            case 11: return x.lift();
            case 12: return x.exchange(1);
            case 13: return x.cut();
            case 14: return x.copy();
            case 15: return x.paste(0);
            case 16: return x.mark(1);
            case 17: return x.goTo(0);
            default: return x.read();
        }
    }

    private static void undoOfEachCall() {
        for (int which = 0; which < RECORDED; which++) {
            TreePlaces x = ready();
            String before = Trees.state(x);
            due.holds("call " + which + " is possible", call(x, which) >= 0);
            due.holds("call " + which + " changes something", !Trees.state(x).equals(before));
            due.is("states after call " + which, x.count(7), 4);
            due.is("undo of call " + which, x.undo(), 3);
            due.is("state after undo of call " + which, Trees.state(x), before);
            due.is("text after undo of call " + which, x.count(8), 6);
            // The walks are back as well: they lead where they led before.
            due.is("back after undo of call " + which, x.back(), 4);
            due.is("back again", x.back(), 2);
            due.is("back at last", x.back(), 0);
        }
    }

    private static void notRecorded() {
        TreePlaces x = ready();
        for (int i = 0; i < 4; i++) {
            x.undo();
        }
        due.is("undo of an empty history", x.undo(), -2);
        x.type('a');
        x.write();
        x.fault(0);
        x.nodeOf(0, 0);
        x.spine(0, 0);
        x.marked(0);
        x.count(0);
        x.like();
        x.meet(0, 0);
        x.find(0);
        x.clearText();
        due.is("calls that are not recorded", x.count(7), 0);
        x.letter(26);
        x.down(9);
        x.paste(-1);
        x.goTo(3);
        x.read();
        due.is("calls with errors", x.count(7), 0);
        x.letter(5);
        due.is("letter is recorded", x.count(7), 1);
        due.is("undo", x.undo(), 0);
        due.is("undo is not recorded", x.count(7), 0);
    }

    private static void atMostFour() {
        TreePlaces x = new TreePlaces();
        for (int letter = 1; letter <= 7; letter++) {
            x.letter(letter);
            due.is("states", x.count(7), Math.min(letter, 4));
        }
        for (int left = 3; left >= 0; left--) {
            due.is("undo", x.undo(), left);
            due.is("letter then", x.nodeOf(0, 0), 3 + left);
        }
        due.is("undo of none", x.undo(), -2);
        // The slots of the history are used in turn, also after states were taken out.
        for (int round = 0; round < 9; round++) {
            x.letter(10);
            x.letter(11);
            x.letter(12);
            x.undo();
            x.letter(13);
            x.letter(14);
            due.is("undo in round " + round, x.undo(), 3);
            due.is("letter in round " + round, x.nodeOf(0, 0), 13);
            due.is("undo again in round " + round, x.undo(), 2);
            due.is("letter again in round " + round, x.nodeOf(0, 0), 11);
        }
    }

    private static void undoAndTheText() {
        TreePlaces x = new TreePlaces();
        x.letter(1);
        Trees.type(x, "xyz");
        x.undo();
        due.is("the text stays", x.count(8), 3);
        x.clearText();
        x.letter(2);
        x.write();
        x.undo();
        due.is("what was written stays", x.count(8), 1);
        x.read();
        due.is("it is the text of then", x.nodeOf(0, 0), 2);
        x.undo();
        due.is("undo of read", x.nodeOf(0, 0), 0);
        due.is("the text is still there", x.count(8), 1);
    }

    private static void undoBringsNodesBack() {
        TreePlaces x = Trees.of("a(b(c),d)");
        x.down(0);
        x.down(0);
        x.mark(1);
        x.up();
        x.delete();
        due.is("mark is at none", x.marked(1), -4);
        x.child(0, 4);
        x.mark(2);
        x.undo();
        x.undo();
        x.undo();
        due.is("the node is back, with its mark", x.marked(1), 2);
        due.is("the other mark is at none", x.marked(2), -4);
        due.is("the walks are back", x.back(), 2);
        x.back();
        // New nodes after an undo are none of those that walks and marks knew.
        x.child(0, 5);
        due.is("mark after a new node", x.marked(1), 3);
        due.is("no other mark", x.nodeOf(2, 7), 0);
        // The clip is a part of the state.
        x = Trees.of("a(b(c),d)");
        x.copy();
        x.down(0);
        x.cut();
        due.is("clip of two", x.count(6), 2);
        x.undo();
        due.is("clip of four", x.count(6), 4);
        x.undo();
        x.undo();
        due.is("no clip", x.count(6), 0);
        due.is("paste of none", x.paste(0), -2);
    }
}
