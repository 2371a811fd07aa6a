/** Promises 18, 19 and 22: marks, and walks to them. */
public final class MarksTest {
    private static final Due due = new Due("MarksTest");
    private static final int[] NO_MARKS = {-1, 4, Integer.MIN_VALUE, Integer.MAX_VALUE};

    public static void main(String[] args) {
        mark();
        goTo();
        marked();
        marksStayWithTheirNodes();
        due.end();
    }

    private static void mark() {
        TreePlaces x = Trees.of("a(b,c)");
        String before = Trees.all(x);
        for (int wrong : NO_MARKS) {
            due.is("mark(" + wrong + ")", x.mark(wrong), -1);
        }
        due.is("state after errors of mark", Trees.all(x), before);
        due.is("mark(3) at first", x.mark(3), 100);
        due.is("mark(3) again", x.mark(3), 0);
        x.down(1);
        due.is("mark(3) elsewhere", x.mark(3), 0);
        due.is("mark(3) elsewhere again", x.mark(3), 2);
        due.is("mark(0) at the same node", x.mark(0), 100);
        due.is("both marks", x.nodeOf(2, 7), 9);
        x.delete();
        due.is("mark(3) after its node is gone", x.mark(3), 100);
        due.is("mark 3 is at the place", x.marked(3), 1);
        due.is("no walk", x.count(5), 1);
        TreePlaces y = new TreePlaces();
        y.mark(0);
        y.mark(0);
        due.is("each mark is recorded", y.count(7), 2);
    }

    private static void goTo() {
        TreePlaces x = Trees.of("a(b,c(d))");
        String before = Trees.all(x);
        for (int wrong : NO_MARKS) {
            due.is("goTo(" + wrong + ")", x.goTo(wrong), -1);
        }
        due.is("goTo(0) of a mark at none", x.goTo(0), -2);
        due.is("state after errors of goTo", Trees.all(x), before);
        x.down(1);
        x.down(0);
        x.mark(0);
        x.top();
        due.is("goTo(0)", x.goTo(0), 3);
        due.is("walks", x.count(5), 4);
        due.is("goTo(0) to where it is", x.goTo(0), 3);
        due.is("nothing is put down", x.count(5), 4);
        due.is("back()", x.back(), 0);
        TreePlaces y = new TreePlaces();
        y.mark(1);
        y.goTo(1);
        due.is("goTo to where it is is recorded", y.count(7), 2);
        due.is("its undo", y.undo(), 1);
    }

    private static void marked() {
        TreePlaces x = Trees.of("a(b,c)");
        for (int wrong : NO_MARKS) {
            due.is("marked(" + wrong + ")", x.marked(wrong), -1);
        }
        for (int mark = 0; mark < 4; mark++) {
            due.is("marked(" + mark + ") at first", x.marked(mark), -4);
        }
        x.down(1);
        x.mark(2);
        due.is("marked(2)", x.marked(2), 2);
        due.is("marked(1)", x.marked(1), -4);
        due.is("marked is not recorded", x.count(7), 3);
        x.delete();
        due.is("marked(2) of a node that is gone", x.marked(2), -4);
        x.undo();
        due.is("marked(2) after undo", x.marked(2), 2);
    }

    private static void marksStayWithTheirNodes() {
        TreePlaces x = Trees.of("a(b(c),d(e))");
        x.down(0);
        x.down(0);
        x.mark(0);
        x.top();
        x.down(1);
        x.mark(1);
        x.exchange(0);
        due.is("mark 1 after exchange", x.marked(1), 1);
        due.is("mark 0 after exchange", x.marked(0), 4);
        x.beside(0, 9);
        due.is("mark 1 after beside", x.marked(1), 2);
        x.wrap(8);
        due.is("mark 1 after wrap", x.marked(1), 3);
        due.is("mark 0 after wrap", x.marked(0), 6);
        x.lift();
        due.is("mark 1 after lift of the node above", x.marked(1), 2);
        x.lift();
        due.is("mark 1 after lift", x.marked(1), -4);
        due.is("mark 0 is still", x.marked(0), 4);
        x.top();
        x.child(0, 7);
        due.is("mark 0 after child", x.marked(0), 5);
        x.goTo(0);
        x.letter(6);
        due.is("mark 0 after letter", x.nodeOf(5, 7), 1);
        x.cut();
        due.is("mark 0 after cut", x.marked(0), -4);
        x.paste(0);
        due.is("mark 0 after paste", x.marked(0), -4);
    }
}
