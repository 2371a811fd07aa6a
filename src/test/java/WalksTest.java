/** Promises 2 to 7: walks, and the row of places that they put down. */
public final class WalksTest {
    private static final Due due = new Due("WalksTest");
    private static final int[] NO_CHOICES = {-1, 2, Integer.MIN_VALUE, Integer.MAX_VALUE};

    public static void main(String[] args) {
        down();
        up();
        side();
        step();
        top();
        back();
        backOverNodesThatAreGone();
        rowOfPlaces();
        due.end();
    }

    private static void down() {
        TreePlaces x = Trees.of("a(b(c,d),e,f)");
        String before = Trees.all(x);
        due.is("down(-1)", x.down(-1), -1);
        due.is("down(least)", x.down(Integer.MIN_VALUE), -1);
        due.is("down(3)", x.down(3), -2);
        due.is("down(greatest)", x.down(Integer.MAX_VALUE), -2);
        due.is("state after errors of down", Trees.all(x), before);
        due.is("down(2)", x.down(2), 5);
        due.is("down(0) at a leaf", x.down(0), -2);
        due.is("down(-1) at a leaf", x.down(-1), -1);
        x.up();
        due.is("down(0)", x.down(0), 1);
        due.is("down(1)", x.down(1), 3);
        due.is("place", x.count(1), 3);
        due.is("walks", x.count(5), 4);
    }

    private static void up() {
        TreePlaces x = Trees.of("a(b(c,d),e(f))");
        String before = Trees.all(x);
        due.is("up() at the top", x.up(), -2);
        due.is("state after an error of up", Trees.all(x), before);
        x.down(1);
        x.down(0);
        due.is("up()", x.up(), 4);
        due.is("up() again", x.up(), 0);
        due.is("place", x.count(1), 0);
        due.is("walks", x.count(5), 4);
        x.step(1);
        x.step(1);
        x.step(1);
        due.is("up() from a second child", x.up(), 1);
    }

    private static void side() {
        TreePlaces x = Trees.of("a(b(c,d),e(f),g)");
        due.is("side(1) at the top", x.side(1), -2);
        due.is("side(0) at the top", x.side(0), -2);
        x.down(0);
        String before = Trees.all(x);
        for (int wrong : NO_CHOICES) {
            due.is("side(" + wrong + ")", x.side(wrong), -1);
        }
        due.is("side(0) at the first", x.side(0), -2);
        due.is("state after errors of side", Trees.all(x), before);
        due.is("side(1)", x.side(1), 4);
        due.is("side(1) again", x.side(1), 6);
        due.is("side(1) at the last", x.side(1), -2);
        due.is("side(0)", x.side(0), 4);
        due.is("side(0) again", x.side(0), 1);
        x.down(1);
        due.is("side(1) to no node of another row", x.side(1), -2);
        due.is("walks", x.count(5), 6);
    }

    private static void step() {
        TreePlaces x = Trees.of("a(b(c),d)");
        String before = Trees.all(x);
        for (int wrong : NO_CHOICES) {
            due.is("step(" + wrong + ")", x.step(wrong), -1);
        }
        due.is("step(0) at the top", x.step(0), -2);
        due.is("state after errors of step", Trees.all(x), before);
        for (int number = 1; number < 4; number++) {
            due.is("step(1)", x.step(1), number);
        }
        due.is("step(1) at the end", x.step(1), -2);
        due.is("place at the end", x.count(1), 3);
        for (int number = 2; number >= 0; number--) {
            due.is("step(0)", x.step(0), number);
        }
        due.is("walks", x.count(5), 6);
    }

    private static void top() {
        TreePlaces x = Trees.of(Trees.chain("abcdefgh"));
        String before = Trees.all(x);
        due.is("top() at the top", x.top(), -2);
        due.is("state after an error of top", Trees.all(x), before);
        for (int depth = 0; depth < 7; depth++) {
            x.down(0);
        }
        due.is("top() from depth 7", x.top(), 7);
        due.is("place", x.count(1), 0);
        x.down(0);
        due.is("top() from depth 1", x.top(), 1);
        due.is("back() from the top", x.back(), 1);
    }

    private static void back() {
        TreePlaces x = Trees.of("a(b(c,d),e)");
        due.is("back() without a walk", x.back(), -2);
        x.down(0);
        x.down(1);
        x.top();
        due.is("back()", x.back(), 3);
        due.is("walks after back", x.count(5), 2);
        due.is("back() again", x.back(), 1);
        due.is("back() to the first", x.back(), 0);
        due.is("back() once more", x.back(), -2);
        due.is("walks at last", x.count(5), 0);
        // The same node twice: each walk is taken back by itself.
        x.down(0);
        x.up();
        x.down(0);
        x.back();
        due.is("back() to and fro", x.back(), 1);
        due.is("back() to the top", x.back(), 0);
    }

    private static void backOverNodesThatAreGone() {
        TreePlaces x = Trees.of("a(b(c,d),e)");
        x.down(0);
        x.down(0);
        x.side(1);
        x.up();
        x.delete();
        due.is("place after delete", x.count(1), 1);
        due.is("walks, with nodes that are gone", x.count(5), 4);
        due.is("back() over nodes that are gone", x.back(), 0);
        due.is("walks then", x.count(5), 0);

        x = Trees.of("a(b)");
        x.down(0);
        x.up();
        x.down(0);
        x.delete();
        String before = Trees.all(x);
        due.is("walks of gone nodes and the place", x.count(5), 3);
        due.is("back() when only these are left", x.back(), -2);
        due.is("state after an error of back", Trees.all(x), before);
        // A new node is none of those that are gone.
        x.child(0, 1);
        due.is("back() beside a new node", x.back(), -2);
        x.down(0);
        due.is("back() from the new node", x.back(), 0);
        due.is("walks are left below", x.count(5), 3);
    }

    private static void rowOfPlaces() {
        TreePlaces x = Trees.of("a(b,c)");
        x.down(0);
        for (int i = 0; i < 4; i++) {
            x.side(1);
            due.is("walks", x.count(5), 2 + 2 * i > 8 ? 8 : 2 + 2 * i);
            x.side(0);
        }
        due.is("walks at most", x.count(5), 8);
        for (int i = 0; i < 8; i++) {
            due.is("back() " + i, x.back(), i % 2 == 0 ? 2 : 1);
        }
        due.is("the ninth was dropped", x.back(), -2);
        // Where a change brings the place is no walk, and walks find nodes wherever they are.
        x = Trees.of("a(b,c(d))");
        x.down(1);
        x.down(0);
        x.wrap(5);
        x.up();
        x.exchange(0);
        x.wrap(6);
        due.is("walks are not made by changes", x.count(5), 3);
        due.is("tree", Trees.told(x), "a(g(c(f(d))),b)");
        due.is("back() to the wrapping node", x.back(), 3);
        due.is("back() to the wrapped node", x.back(), 2);
        due.is("back() to the top", x.back(), 0);
    }
}
