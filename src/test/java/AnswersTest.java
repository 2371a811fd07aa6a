/** Promises 1, 20, 21 and 23 to 26: a new object, what there is, and what is found. */
public final class AnswersTest {
    private static final Due due = new Due("AnswersTest");
    private static final int LEAST = Integer.MIN_VALUE;
    private static final int GREATEST = Integer.MAX_VALUE;

    public static void main(String[] args) {
        newObject();
        nodeOf();
        nodeOfWrongArguments();
        spine();
        count();
        like();
        meet();
        find();
        due.end();
    }

    private static void newObject() {
        TreePlaces x = new TreePlaces();
        int[] counts = {1, 0, 0, 1, 0, 0, 0, 0, 0, 1};
        for (int what = 0; what < counts.length; what++) {
            due.is("count(" + what + ") of a new object", x.count(what), counts[what]);
        }
        due.is("tree of a new object", Trees.told(x), "a");
        due.is("undo of a new object", x.undo(), -2);
        due.is("back of a new object", x.back(), -2);
        due.is("paste of a new object", x.paste(0), -2);
        due.is("fault of a new object", x.fault(0), 0);
        TreePlaces y = new TreePlaces();
        x.letter(4);
        x.child(0, 2);
        x.type('a');
        due.is("another object is another", Trees.all(y), Trees.all(new TreePlaces()));
    }

    private static void nodeOf() {
        TreePlaces x = Trees.of("a(b(c,z(e)),f,b)");
        int[][] told = {
            {0, 3, -4, 0, 7, -4, 3, 4},
            {1, 2, 0, 1, 4, 0, 2, 0},
            {2, 0, 1, 2, 1, 0, 0, 0},
            {25, 1, 1, 2, 2, 1, 1, 9},
            {4, 0, 3, 3, 1, 0, 0, 0},
            {5, 0, 0, 1, 1, 1, 0, 0},
            {1, 0, 0, 1, 1, 2, 0, 2},
        };
        x.mark(2);
        x.down(2);
        x.mark(1);
        x.side(0);
        x.side(0);
        x.down(1);
        x.mark(0);
        x.mark(3);
        for (int number = 0; number < told.length; number++) {
            for (int what = 0; what < told[number].length; what++) {
                due.is("nodeOf(" + number + ", " + what + ")", x.nodeOf(number, what), told[number][what]);
            }
        }
        x.mark(1);
        due.is("a third mark", x.nodeOf(3, 7), 11);
        due.is("no mark any more", x.nodeOf(6, 7), 0);
    }

    private static void nodeOfWrongArguments() {
        TreePlaces x = Trees.of("a(b,c)");
        for (int number : new int[] {-1, 3, 40, LEAST, GREATEST}) {
            due.is("nodeOf(" + number + ", 0)", x.nodeOf(number, 0), -1);
            due.is("nodeOf(" + number + ", 8)", x.nodeOf(number, 8), -1);
        }
        for (int what : new int[] {-1, 8, LEAST, GREATEST}) {
            due.is("nodeOf(0, " + what + ")", x.nodeOf(0, what), -1);
        }
        // Nodes that were there once are not there now.
        x.down(1);
        x.delete();
        due.is("nodeOf of a number that is gone", x.nodeOf(2, 0), -1);
    }

    private static void spine() {
        TreePlaces x = Trees.of("a(b(c,d(e)),f)");
        due.is("spine(0, 0) at the top", x.spine(0, 0), 0);
        due.is("spine(0, 2) at the top", x.spine(0, 2), 0);
        due.is("spine(1, 0) at the top", x.spine(1, 0), -4);
        for (int number = 1; number < 5; number++) {
            x.step(1);
        }
        int[][] told = {{0, 0, 0}, {1, 1, 0}, {3, 3, 1}, {4, 4, 0}};
        for (int depth = 0; depth < told.length; depth++) {
            for (int what = 0; what < 3; what++) {
                due.is("spine(" + depth + ", " + what + ")", x.spine(depth, what), told[depth][what]);
            }
        }
        due.is("spine beyond the place", x.spine(4, 0), -4);
        due.is("spine(greatest, 2)", x.spine(GREATEST, 2), -4);
        due.is("spine(-1, 0)", x.spine(-1, 0), -1);
        due.is("spine(least, 0)", x.spine(LEAST, 0), -1);
        due.is("spine(0, -1)", x.spine(0, -1), -1);
        due.is("spine(0, 3)", x.spine(0, 3), -1);
        due.is("spine(9, 3)", x.spine(9, 3), -1);
        x.step(0);
        due.is("the spine ends at the place", x.spine(3, 0), -4);
        x.top();
        x.down(1);
        due.is("spine of the second child", x.spine(1, 2), 1);
    }

    private static void count() {
        TreePlaces x = Trees.of("a(b(c,a(b)),a)");
        int[] told = {6, 4, 3, 3, 3, 3, 2, 4, 3, 3};
        x.down(0);
        x.down(1);
        x.copy();
        x.mark(0);
        x.down(0);
        x.type('x');
        x.type('(');
        x.type(' ');
        x.mark(0);
        for (int what = 0; what < told.length; what++) {
            due.is("count(" + what + ")", x.count(what), told[what]);
        }
        for (int what : new int[] {-1, 10, LEAST, GREATEST}) {
            due.is("count(" + what + ")", x.count(what), -1);
        }
        x = Trees.of("a(b(c(d),e),f(z))");
        due.is("all letters unlike", x.count(9), 7);
        due.is("leaves", x.count(3), 3);
        due.is("letters without the first", Trees.of("z(y,z(y))").count(9), 2);
        due.is("no clip", x.count(6), 0);
    }

    private static void like() {
        TreePlaces x = Trees.of("a(b(c,d),e(b(c,d),b(d,c)),b(c),b(c,d,c))");
        due.is("like() at the top", x.like(), 1);
        x.down(0);
        due.is("like() of two parts", x.like(), 2);
        x.down(0);
        due.is("like() of a leaf", x.like(), 6);
        x.top();
        x.down(3);
        due.is("like() of a part of its own", x.like(), 1);
        // The same letters in another tree are not like, nor is the same tree with other letters.
        x = Trees.of("a(b(c(d)),b(c,d),b(c(e)),b(c(d)))");
        x.down(0);
        due.is("like() of a chain", x.like(), 2);
        x.side(1);
        due.is("like() of a row", x.like(), 1);
        x = Trees.of(Trees.chain("aaaa"));
        due.is("like() of a chain of one letter", x.like(), 1);
        x = Trees.of("a(a,a(a))");
        x.down(0);
        due.is("like() of leaves alone", x.like(), 2);
        due.is("like() of one node", new TreePlaces().like(), 1);
    }

    private static void meet() {
        TreePlaces x = Trees.of("a(b(c,d(e,f)),g(h))");
        due.is("meet of two leaves beside", x.meet(4, 5), 3);
        due.is("meet of a leaf and another's child", x.meet(2, 5), 1);
        due.is("the same, the other way round", x.meet(5, 2), 1);
        due.is("meet over the top", x.meet(4, 7), 0);
        due.is("meet with one above", x.meet(3, 5), 3);
        due.is("meet with one above, round", x.meet(5, 1), 1);
        due.is("meet with itself", x.meet(4, 4), 4);
        due.is("meet with the top", x.meet(0, 6), 0);
        due.is("meet of the top", x.meet(0, 0), 0);
        for (int wrong : new int[] {-1, 8, 40, LEAST, GREATEST}) {
            due.is("meet(" + wrong + ", 0)", x.meet(wrong, 0), -1);
            due.is("meet(0, " + wrong + ")", x.meet(0, wrong), -1);
        }
    }

    private static void find() {
        TreePlaces x = Trees.of("a(b(c),a,z(b))");
        String before = Trees.all(x);
        for (int wrong : new int[] {-1, 26, LEAST, GREATEST}) {
            due.is("find(" + wrong + ")", x.find(wrong), -1);
        }
        due.is("find(0) from the top", x.find(0), 3);
        due.is("find(1) from the top", x.find(1), 1);
        due.is("find(25)", x.find(25), 4);
        due.is("find(3)", x.find(3), -4);
        due.is("find changes nothing", Trees.all(x), before);
        x.down(1);
        due.is("find(0) over the end", x.find(0), 0);
        due.is("find(1) behind", x.find(1), 5);
        due.is("find(2) over the end", x.find(2), 2);
        x.top();
        x.down(2);
        due.is("find(25) of the place alone", x.find(25), 4);
        due.is("find(1) of the last", x.find(1), 5);
        x.down(0);
        due.is("find(1) from the last", x.find(1), 1);
        due.is("find(0) of one node", new TreePlaces().find(0), 0);
        due.is("find(1) of one node", new TreePlaces().find(1), -4);
    }
}
