import java.util.function.ToIntFunction;

/** The sentences of "Walks", and of promises 1 to 7. */
final class WalkSentences {
    private static final int[] NO_CHOICES = {-1, 2, Integer.MIN_VALUE, Integer.MAX_VALUE};

    private final Sentences doc;

    WalkSentences(Sentences doc) {
        this.doc = doc;
    }

    void run() {
        doc.in("Walks");
        putDown();
        eightPlaces();
        ninthPlace();
        takenBack();
        nothingIsPutDown();
        noneIsLeft();
        changesAreNoWalks();
        doc.in("Promise 1");
        newObject();
        doc.in("Promise 2");
        down();
        downRefused();
        doc.in("Promise 3");
        up();
        doc.in("Promise 4");
        side();
        sideRefused();
        doc.in("Promise 5");
        step();
        stepRefused();
        doc.in("Promise 6");
        top();
        doc.in("Promise 7");
        back();
    }

    private void putDown() {
        doc.says("A walk brings the place to another node; the place ahead of it is put down");
        putsDown("down(1)", x -> x.down(1));
        putsDown("up()", TreePlaces::up);
        putsDown("side(1)", x -> x.side(1));
        putsDown("side(0)", x -> x.side(0));
        putsDown("step(1)", x -> x.step(1));
        putsDown("step(0)", x -> x.step(0));
        putsDown("top()", TreePlaces::top);
        putsDown("goTo(0)", x -> x.goTo(0));
    }

    private void putsDown(String call, ToIntFunction<TreePlaces> walk) {
        TreePlaces x = Trees.of("a(b,c(d,e),f)");
        x.mark(0);
        x.down(1);
        doc.is("places put down ahead of " + call, x.count(5), 1);
        doc.holds(call + " is possible", walk.applyAsInt(x) >= 0);
        doc.holds("the place is another after " + call, x.count(1) != 2);
        doc.is("places put down by " + call, x.count(5), 2);
        doc.is("what " + call + " put down", x.back(), 2);
    }

    private static TreePlaces stepped(int steps) {
        TreePlaces x = Trees.of("a(b,c,d,e,f(g,h,i,j,k))");
        for (int i = 0; i < steps; i++) {
            x.step(1);
        }
        return x;
    }

    private void eightPlaces() {
        doc.says("in a row of at most 8");
        for (int steps = 0; steps <= 8; steps++) {
            doc.is("places after " + steps + " walks", stepped(steps).count(5), steps);
        }
        doc.is("all eight are there", Told.by(1, stepped(8)), "walks 7 6 5 4 3 2 1 0");
    }

    private void ninthPlace() {
        doc.says("(if there are 9 then, the first one is dropped).");
        doc.is("places after 9 walks", stepped(9).count(5), 8);
        doc.is("the first is not there", Told.by(1, stepped(9)), "walks 8 7 6 5 4 3 2 1");
        doc.is("places after 10 walks", stepped(10).count(5), 8);
        doc.is("nor is the second", Told.by(1, stepped(10)), "walks 9 8 7 6 5 4 3 2");
        TreePlaces x = stepped(9);
        x.back();
        x.step(1);
        doc.is("a place more after one is taken off", Told.by(1, x), "walks 8 7 6 5 4 3 2 1");
        // Places of nodes that are gone take up room in the row: six of them here.
        TreePlaces y = Trees.at("a(b(c))", 1);
        for (int i = 0; i < 3; i++) {
            y.down(0);
            y.up();
        }
        y.delete();
        doc.is("places, six of them gone", y.count(5), 7);
        y.child(0, 3);
        y.down(0);
        y.up();
        doc.is("the ninth drops the first", y.count(5), 8);
        doc.is("back() to the new node", y.back(), 1);
        doc.is("back() to the top", y.back(), 0);
        doc.is("places that are left, all gone", y.count(5), 6);
        doc.is("back() to none", y.back(), -2);
    }

    private void takenBack() {
        doc.says("To take a walk back: the last one is taken off the row, again and again, until it is a node of the"
                + " tree other than the place: this is the place then.");
        TreePlaces x = Trees.at("a(b,c)", 1);
        doc.is("back() to the last one", x.back(), 0);
        doc.is("place then", x.count(1), 0);
        doc.is("places then", x.count(5), 0);
        // The last one is the place: delete() brought it there.
        TreePlaces y = Trees.at("a(b,c)", 1);
        y.side(1);
        y.delete();
        doc.is("place ahead of back()", y.count(1), 1);
        doc.is("places ahead of back()", y.count(5), 2);
        doc.is("back() over the place", y.back(), 0);
        doc.is("places after back()", y.count(5), 0);
        // The last two are gone, the third is the place, and the fourth is another node.
        TreePlaces z = Trees.at("a(b,c(d,e))", 1);
        z.up();
        z.down(1);
        z.up();
        z.down(0);
        z.side(1);
        z.down(0);
        z.up();
        z.delete();
        doc.is("place ahead of the long way back", z.count(1), 1);
        doc.is("places ahead of the long way back", z.count(5), 8);
        doc.is("the long way back", z.back(), 0);
        doc.is("places after the long way back", z.count(5), 4);
        doc.is("and further back", Told.by(1, z), "walks 1 0");
    }

    private void nothingIsPutDown() {
        doc.says("(Nothing is put down by that.");
        TreePlaces x = stepped(3);
        for (int left = 2; left >= 0; left--) {
            doc.is("back()", x.back(), left);
            doc.is("places", x.count(5), left);
        }
    }

    private void noneIsLeft() {
        doc.says("If none is left, it is not possible, and nothing is changed.)");
        doc.refused("back() with an empty row", TreePlaces::new, TreePlaces::back, -2);
        doc.refused("back() with nodes that are gone and the place", () -> {
            TreePlaces x = Trees.at("a(b(c))", 2);
            x.up();
            x.up();
            x.down(0);
            x.delete();
            return x;
        }, TreePlaces::back, -2);
        doc.refused("back() with the place alone", () -> {
            TreePlaces x = Trees.at("a(b)", 1);
            x.delete();
            return x;
        }, TreePlaces::back, -2);
    }

    private void changesAreNoWalks() {
        doc.says("When a change of the tree brings the place to another node, this is no walk.");
        noWalk("delete() to the next", "a(b,c)", 1, TreePlaces::delete, "walks 0");
        noWalk("delete() to the one ahead", "a(b,c)", 2, TreePlaces::delete, "walks 0");
        noWalk("delete() to the node above", "a(b(c))", 2, TreePlaces::delete, "walks 0");
        noWalk("cut()", "a(b,c)", 1, TreePlaces::cut, "walks 0");
        noWalk("wrap()", "a(b,c)", 1, x -> x.wrap(4), "walks 0");
        noWalk("wrap() at the top", "a(b,c)", 0, x -> x.wrap(4), "walks");
        noWalk("lift() to the first child", "a(b(c,d))", 1, TreePlaces::lift, "walks 0");
        noWalk("lift() to the next", "a(b,c)", 1, TreePlaces::lift, "walks 0");
        noWalk("lift() of the top", "a(b)", 0, TreePlaces::lift, "walks");
    }

    private void noWalk(String call, String text, int number, ToIntFunction<TreePlaces> change, String back) {
        TreePlaces x = Trees.at(text, number);
        int before = x.count(5);
        doc.holds(call + " is possible", change.applyAsInt(x) >= 0);
        doc.is("places after " + call, x.count(5), before);
        doc.is("ways back after " + call, Told.by(1, x), back);
    }

    private void newObject() {
        doc.says("Creates a tree of one node.");
        doc.is("all of a new object", Told.by(0, new TreePlaces()),
                "a place 0 walks 0 clip 0 marks -4 -4 -4 -4 history 0 text 0 fault 0 1");
        TreePlaces x = new TreePlaces();
        Trees.busy("b(c(d),e)", 1).letter(7);
        for (int way = 0; way < Told.WAYS; way++) {
            doc.is("what there is beside another object", Told.by(way, x), Told.by(way, new TreePlaces()));
            x = new TreePlaces();
        }
        doc.is("depth of the place", new TreePlaces().count(2), 0);
        doc.is("leaves", new TreePlaces().count(3), 1);
        doc.is("greatest depth", new TreePlaces().count(4), 0);
    }

    private void down() {
        doc.says("Walks down to a child.");
        TreePlaces x = Trees.of("a(b(c),d)");
        x.down(1);
        doc.is("place", x.count(1), 3);
        doc.is("depth", x.count(2), 1);
        doc.says("`child`: number of the child, 0 or more");
        String six = "a(b(h),c,d(i),e,f,g(j))";
        int[] numbers = {1, 3, 4, 6, 7, 8};
        for (int child = 0; child < 6; child++) {
            doc.is("down(" + child + ")", Trees.of(six).down(child), numbers[child]);
        }
        doc.says("Returns the number of the node then");
        TreePlaces y = Trees.of(Trees.chain("abcdefgh"));
        for (int number = 1; number < 8; number++) {
            doc.is("down(0)", y.down(0), number);
            doc.is("place", y.count(1), number);
        }
    }

    private void downRefused() {
        doc.says("INVALID_ARGUMENT if child is negative");
        for (int wrong : new int[] {-1, -2, Integer.MIN_VALUE}) {
            doc.refused("down(" + wrong + ")", () -> Trees.busy("a(b,c)", 0), x -> x.down(wrong), -1);
            doc.refused("down(" + wrong + ") at a leaf", () -> Trees.busy("a(b,c)", 1), x -> x.down(wrong), -1);
        }
        doc.says("NOT_POSSIBLE if there are not so many.");
        doc.is("down to the last", Trees.of("a(b,c)").down(1), 2);
        for (int wrong : new int[] {2, 3, 6, Integer.MAX_VALUE}) {
            doc.refused("down(" + wrong + ")", () -> Trees.busy("a(b,c)", 0), x -> x.down(wrong), -2);
        }
        doc.refused("down(0) at a leaf ahead of others", () -> Trees.busy("a(b,c)", 1), x -> x.down(0), -2);
        doc.refused("down(0) of a new object", TreePlaces::new, x -> x.down(0), -2);
        doc.refused("down(6) of six", () -> Trees.of(Trees.row("a", "b", 6)), x -> x.down(6), -2);
        // What is below the children are no children.
        doc.refused("down(1) of one child", () -> Trees.of("a(b(c,d))"), x -> x.down(1), -2);
    }

    private void up() {
        doc.says("Walks up.");
        TreePlaces x = Trees.at("a(b,c(d(e),f))", 5);
        x.up();
        doc.is("place", x.count(1), 2);
        doc.says("Returns the number of the node then");
        TreePlaces y = Trees.at(Trees.chain("abcdefgh"), 7);
        for (int number = 6; number >= 0; number--) {
            doc.is("up()", y.up(), number);
        }
        doc.is("up() over all ahead", Trees.at("a(b(c),d(e(f),g))", 6).up(), 3);
        doc.says("NOT_POSSIBLE at the top.");
        doc.refused("up() at the top", () -> Trees.busy("a(b,c)", 0), TreePlaces::up, -2);
        doc.refused("up() of a new object", TreePlaces::new, TreePlaces::up, -2);
        doc.is("up() to the top", Trees.at("a(b)", 1).up(), 0);
    }

    private void side() {
        doc.says("Walks to the node beside.");
        TreePlaces x = Trees.at("a(b(c,d),e)", 1);
        x.side(1);
        doc.is("place", x.count(1), 4);
        doc.says("`right`: 1: to the next child of the node above; 0: to the one ahead");
        doc.is("side(1)", Trees.at("a(b,c,d)", 2).side(1), 3);
        doc.is("side(0)", Trees.at("a(b,c,d)", 2).side(0), 1);
        doc.says("Returns the number of the node then");
        doc.is("side(1) over a part", Trees.at("a(b(c(d),e),f)", 1).side(1), 5);
        doc.is("side(0) over a part", Trees.at("a(b(c(d),e),f)", 5).side(0), 1);
        doc.is("side(1) to the last of six", Trees.at(Trees.row("a", "b", 6), 5).side(1), 6);
    }

    private void sideRefused() {
        doc.says("INVALID_ARGUMENT if right is out of range");
        for (int wrong : NO_CHOICES) {
            doc.refused("side(" + wrong + ")", () -> Trees.busy("a(b,c,d)", 2), x -> x.side(wrong), -1);
        }
        doc.says("NOT_POSSIBLE if there is none.");
        doc.refused("side(0) at the first", () -> Trees.busy("a(b,c)", 1), x -> x.side(0), -2);
        doc.refused("side(1) at the last", () -> Trees.busy("a(b,c)", 2), x -> x.side(1), -2);
        for (int right = 0; right < 2; right++) {
            int way = right;
            doc.refused("side(" + way + ") at the top", () -> Trees.busy("a(b,c)", 0), x -> x.side(way), -2);
            doc.refused("side(" + way + ") of a new object", TreePlaces::new, x -> x.side(way), -2);
            doc.refused("side(" + way + ") of an only child", () -> Trees.at("a(b)", 1), x -> x.side(way), -2);
        }
        doc.refused("side(1) ahead of another row", () -> Trees.at("a(b(c),d(e))", 2), x -> x.side(1), -2);
        doc.refused("side(0) behind another row", () -> Trees.at("a(b(c),d(e))", 4), x -> x.side(0), -2);
    }

    private void step() {
        doc.says("Walks to the node whose number is greater, or less, by 1.");
        TreePlaces x = Trees.of(Trees.full());
        for (int number = 1; number < 40; number++) {
            x.step(1);
            doc.is("place", x.count(1), number);
        }
        doc.says("`on`: 1: greater; 0: less");
        doc.is("step(1)", Trees.at("a(b(c),d)", 2).step(1), 3);
        doc.is("step(0)", Trees.at("a(b(c),d)", 2).step(0), 1);
        doc.says("Returns the number of the node then");
        doc.is("step(1) from the top", Trees.of("a(b)").step(1), 1);
        doc.is("step(0) to the top", Trees.at("a(b)", 1).step(0), 0);
        doc.is("step(1) to the last of all", Trees.at(Trees.full(), 38).step(1), 39);
        doc.is("step(0) from the last of all", Trees.at(Trees.full(), 39).step(0), 38);
    }

    private void stepRefused() {
        doc.says("INVALID_ARGUMENT if on is out of range");
        for (int wrong : NO_CHOICES) {
            doc.refused("step(" + wrong + ")", () -> Trees.busy("a(b(c),d)", 2), x -> x.step(wrong), -1);
        }
        doc.says("NOT_POSSIBLE if there is none.");
        doc.refused("step(0) at the top", () -> Trees.busy("a(b)", 0), x -> x.step(0), -2);
        doc.refused("step(1) at the last", () -> Trees.busy("a(b(c),d)", 3), x -> x.step(1), -2);
        doc.refused("step(1) of a new object", TreePlaces::new, x -> x.step(1), -2);
        doc.refused("step(0) of a new object", TreePlaces::new, x -> x.step(0), -2);
        doc.refused("step(1) at the last of 40", () -> Trees.at(Trees.full(), 39), x -> x.step(1), -2);
    }

    private void top() {
        doc.says("Walks to the top.");
        TreePlaces x = Trees.at("a(b,c(d))", 3);
        x.top();
        doc.is("place", x.count(1), 0);
        doc.is("one walk, however far", x.count(5), 3);
        doc.says("Returns how many nodes were above the place ahead of it");
        for (int number = 1; number < 8; number++) {
            doc.is("top() from " + number, Trees.at(Trees.chain("abcdefgh"), number).top(), number);
        }
        doc.is("top() from the last of a row", Trees.at("a(b,c,d,e)", 4).top(), 1);
        doc.says("NOT_POSSIBLE at the top.");
        doc.refused("top() at the top", () -> Trees.busy("a(b)", 0), TreePlaces::top, -2);
        doc.refused("top() of a new object", TreePlaces::new, TreePlaces::top, -2);
    }

    private void back() {
        doc.says("Takes a walk back.");
        TreePlaces x = Trees.at("a(b(c),d)", 2);
        x.back();
        doc.is("place", x.count(1), 1);
        doc.is("places put down", x.count(5), 1);
        doc.says("Returns the number of the node then");
        TreePlaces y = Trees.at("a(b,c)", 2);
        y.top();
        doc.is("back()", y.back(), 2);
        y.beside(0, 5);
        y.step(0);
        doc.is("back() to a node that has another number", y.back(), 3);
        doc.says("NOT_POSSIBLE if there is none.");
        doc.refused("back() of a new object", TreePlaces::new, TreePlaces::back, -2);
        doc.refused("back() once too often", () -> {
            TreePlaces z = Trees.at("a(b)", 1);
            z.back();
            return z;
        }, TreePlaces::back, -2);
        doc.refused("back() after read()", () -> {
            TreePlaces z = Trees.busy("a(b)", 1);
            z.read();
            return z;
        }, TreePlaces::back, -2);
    }
}
