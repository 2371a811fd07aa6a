/** Trees as texts, in and out of a TreePlaces by its public calls alone. */
final class Trees {
    private Trees() {
    }

    static TreePlaces of(String text) {
        TreePlaces x = new TreePlaces();
        type(x, text);
        if (x.read() < 0) {
            throw new IllegalStateException("no tree: " + text);
        }
        x.clearText();
        return x;
    }

    /** A tree with the place at a node, to which it is walked down from the top. */
    static TreePlaces at(String text, int number) {
        TreePlaces x = of(text);
        walkDown(x, number);
        return x;
    }

    static void walkDown(TreePlaces x, int number) {
        StringBuilder children = new StringBuilder();
        for (int on = number; on > 0; on = x.nodeOf(on, 2)) {
            children.append(x.nodeOf(on, 5));
        }
        for (char child : children.reverse().toString().toCharArray()) {
            x.down(child - '0');
        }
    }

    /** The same with a mark and a clip of the place, and a text: much that an error could spoil. */
    static TreePlaces busy(String text, int number) {
        TreePlaces x = at(text, number);
        x.mark(2);
        x.copy();
        type(x, "x(y,z)");
        return x;
    }

    static void type(TreePlaces x, String text) {
        x.clearText();
        for (char character : text.toCharArray()) {
            x.type(character);
        }
    }

    static String told(TreePlaces x) {
        StringBuilder told = new StringBuilder();
        int open = 0;
        int nodes = x.count(0);
        for (int number = 0; number < nodes; number++) {
            int depth = x.nodeOf(number, 3);
            if (depth > open) {
                told.append('(');
            } else if (number > 0) {
                told.append(")".repeat(open - depth)).append(',');
            }
            open = depth;
            told.append((char) ('a' + x.nodeOf(number, 0)));
        }
        return told.append(")".repeat(open)).toString();
    }

    /** The tree, the place and all else that undo brings back, as far as calls tell it. */
    static String state(TreePlaces x) {
        StringBuilder state = new StringBuilder(told(x));
        state.append(" place ").append(x.count(1)).append(" walks ").append(x.count(5));
        state.append(" clip ").append(x.count(6)).append(" marks");
        for (int mark = 0; mark < 4; mark++) {
            state.append(' ').append(x.marked(mark));
        }
        return state.toString();
    }

    /** What count() tells of the history and the text too: nothing of it changes by an error. */
    static String all(TreePlaces x) {
        return state(x) + " history " + x.count(7) + " text " + x.count(8);
    }

    /** A node with so many children, all of the same letter. */
    static String row(String top, String child, int children) {
        return children == 0 ? top : top + "(" + (child + ",").repeat(children - 1) + child + ")";
    }

    /** A chain of nodes, each the only child of the one ahead. */
    static String chain(String letters) {
        String text = letters.substring(letters.length() - 1);
        for (int i = letters.length() - 2; i >= 0; i--) {
            text = letters.charAt(i) + "(" + text + ")";
        }
        return text;
    }

    /** 40 nodes: a top with 6 children, 5 of them with 6 children, one with 3. */
    static String full() {
        String six = row("b", "c", 6);
        return "a(" + (six + ",").repeat(4) + six + "," + row("b", "c", 3) + ")";
    }
}
