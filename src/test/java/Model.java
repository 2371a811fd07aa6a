import java.util.ArrayDeque;
import java.util.ArrayList;
import java.util.Arrays;
import java.util.HashMap;
import java.util.List;
import java.util.Map;
import java.util.TreeSet;

/**
 * What the document promises, written a second time in another way: with linked nodes, and a copy
 * of everything for each state. It answers by the name of a call, so that runs can be told.
 */
final class Model {
    static final class Node {
        int letter;
        Node above;
        final List<Node> row = new ArrayList<>();

        Node(int letter) {
            this.letter = letter;
        }

        void put(int at, Node node) {
            row.add(at, node);
            node.above = this;
        }

        int turn() {
            return above.row.indexOf(this);
        }

        int depth() {
            return above == null ? 0 : above.depth() + 1;
        }

        int height() {
            int height = 0;
            for (Node node : row) {
                height = Math.max(height, node.height() + 1);
            }
            return height;
        }

        List<Node> part() {
            List<Node> part = new ArrayList<>();
            part.add(this);
            for (Node node : row) {
                part.addAll(node.part());
            }
            return part;
        }

        String told() {
            StringBuilder told = new StringBuilder().append((char) ('a' + letter));
            for (int i = 0; i < row.size(); i++) {
                told.append(i == 0 ? '(' : ',').append(row.get(i).told());
            }
            return told.append(row.isEmpty() ? "" : ")").toString();
        }

        Node copy(Map<Node, Node> copies) {
            Node copy = new Node(letter);
            copies.put(this, copy);
            for (Node node : row) {
                copy.put(copy.row.size(), node.copy(copies));
            }
            return copy;
        }
    }

    static final class State {
        Node top = new Node(0);
        Node place = top;
        Node clip;
        Node[] marks = new Node[4];
        List<Node> walks = new ArrayList<>();

        State copy() {
            State copy = new State();
            Map<Node, Node> copies = new HashMap<>();
            copy.top = top.copy(copies);
            copy.place = copies.get(place);
            copy.clip = clip;
            for (int i = 0; i < 4; i++) {
                copy.marks[i] = copies.get(marks[i]);
            }
            for (Node node : walks) {
                // A node that is gone stays one that is in no tree.
                copy.walks.add(copies.getOrDefault(node, new Node(0)));
            }
            return copy;
        }
    }

    private State now = new State();
    private final ArrayDeque<State> history = new ArrayDeque<>();
    private String text = "";

    long answer(String call, int a, int b) {
        State before = now.copy();
        long answer = perform(call, a, b);
        boolean recorded = " down up side step top back letter child beside delete wrap lift exchange cut copy paste mark goTo read "
                .contains(" " + call + " ");
        if (recorded && answer >= 0) {
            history.addLast(before);
            if (history.size() > 4) {
                history.removeFirst();
            }
        }
        return answer;
    }

    private long perform(String call, int a, int b) {
        switch (call) {
            case "down": return a < 0 ? -1 : walk(get(now.place, a));
            case "up": return walk(now.place.above);
            case "side": return wrongChoice(a) ? -1 : walk(beside(a));
            case "step": return wrongChoice(a) ? -1 : walk(node(number(now.place) + (a == 1 ? 1 : -1)));
            case "top": return top();
            case "back": return back();
            case "letter": return letter(a);
            case "child": return child(a, b);
            case "beside": return besidePut(a, b);
            case "delete": return now.place == now.top ? -2 : takeOut();
            case "wrap": return wrap(a);
            case "lift": return lift();
            case "exchange": return exchange(a);
            case "cut": return cut();
            case "copy": return copy();
            case "paste": return paste(a);
            case "mark": return mark(a);
            case "goTo": return a < 0 || a > 3 ? -1 : walk(markedNode(a));
            case "nodeOf": return nodeOf(a, b);
            case "spine": return spine(a, b);
            case "marked": return a < 0 || a > 3 ? -1 : markedNode(a) == null ? -4 : number(markedNode(a));
            case "count": return count(a);
            case "like": return now.top.part().stream().filter(n -> n.told().equals(now.place.told())).count();
            case "meet": return meet(a, b);
            case "find": return find(a);
            case "undo": return undo();
            case "type": return type(a);
            case "clearText": return clearText();
            case "write": return write();
            case "fault": return wrongChoice(a) ? -1 : fault() == null ? -4 : fault()[a];
            case "read": return read();
            default: throw new IllegalArgumentException(call);
        }
    }

    private static boolean wrongChoice(int value) {
        return value < 0 || value > 1;
    }

    private static boolean wrongLetter(int value) {
        return value < 0 || value > 25;
    }

    private int nodes() {
        return now.top.part().size();
    }

    private int number(Node node) {
        return now.top.part().indexOf(node);
    }

    private Node node(int number) {
        return get(now.top.part(), number);
    }

    private static Node get(List<Node> nodes, int index) {
        return index < 0 || index >= nodes.size() ? null : nodes.get(index);
    }

    private static Node get(Node node, int child) {
        return get(node.row, child);
    }

    private Node beside(int right) {
        return now.place.above == null ? null : get(now.place.above, now.place.turn() + (right == 1 ? 1 : -1));
    }

    private Node markedNode(int mark) {
        Node node = now.marks[mark];
        return node != null && number(node) >= 0 ? node : null;
    }

    private long walk(Node node) {
        if (node == null) {
            return -2;
        }
        if (node != now.place) {
            now.walks.add(now.place);
            if (now.walks.size() == 9) {
                now.walks.remove(0);
            }
            now.place = node;
        }
        return number(node);
    }

    private long top() {
        int depth = now.place.depth();
        return depth == 0 ? -2 : walk(now.top) + depth;
    }

    private long back() {
        List<Node> left = new ArrayList<>(now.walks);
        while (!left.isEmpty()) {
            Node last = left.remove(left.size() - 1);
            if (last != now.place && number(last) >= 0) {
                now.place = last;
                now.walks = left;
                return number(last);
            }
        }
        return -2;
    }

    private long letter(int letter) {
        if (wrongLetter(letter)) {
            return -1;
        }
        int before = now.place.letter;
        now.place.letter = letter;
        return before;
    }

    private long child(int child, int letter) {
        if (child < 0 || child > now.place.row.size() || wrongLetter(letter)) {
            return -1;
        }
        if (nodes() == 40 || now.place.row.size() == 6 || now.place.depth() == 7) {
            return -3;
        }
        now.place.put(child, new Node(letter));
        return now.place.row.size();
    }

    private long besidePut(int right, int letter) {
        if (wrongChoice(right) || wrongLetter(letter)) {
            return -1;
        }
        Node above = now.place.above;
        if (above == null) {
            return -2;
        }
        if (nodes() == 40 || above.row.size() == 6) {
            return -3;
        }
        above.put(now.place.turn() + right, new Node(letter));
        return above.row.size();
    }

    private long takeOut() {
        Node above = now.place.above;
        int gone = now.place.part().size();
        int turn = now.place.turn();
        above.row.remove(turn);
        now.place = above.row.isEmpty() ? above : above.row.get(Math.min(turn, above.row.size() - 1));
        return gone;
    }

    private long wrap(int letter) {
        if (wrongLetter(letter)) {
            return -1;
        }
        if (nodes() == 40 || now.place.depth() + now.place.height() == 7) {
            return -3;
        }
        Node wrapping = new Node(letter);
        Node above = now.place.above;
        if (above == null) {
            now.top = wrapping;
        } else {
            int turn = now.place.turn();
            above.row.remove(turn);
            above.put(turn, wrapping);
        }
        wrapping.put(0, now.place);
        now.place = wrapping;
        return nodes();
    }

    private long lift() {
        List<Node> row = new ArrayList<>(now.place.row);
        Node above = now.place.above;
        if (above == null) {
            if (row.size() != 1) {
                return -2;
            }
            now.top = row.get(0);
            now.top.above = null;
            now.place = now.top;
            return 1;
        }
        if (above.row.size() - 1 + row.size() > 6) {
            return -3;
        }
        if (row.isEmpty()) {
            takeOut();
            return 0;
        }
        int turn = now.place.turn();
        above.row.remove(turn);
        for (int i = 0; i < row.size(); i++) {
            above.put(turn + i, row.get(i));
        }
        now.place = row.get(0);
        return row.size();
    }

    private long exchange(int right) {
        if (wrongChoice(right)) {
            return -1;
        }
        Node other = beside(right);
        if (other == null) {
            return -2;
        }
        int turn = other.turn();
        now.place.above.row.set(now.place.turn(), other);
        now.place.above.row.set(turn, now.place);
        return turn;
    }

    private long cut() {
        if (now.place == now.top) {
            return -2;
        }
        now.clip = now.place.copy(new HashMap<>());
        return takeOut();
    }

    private long copy() {
        now.clip = now.place.copy(new HashMap<>());
        return now.clip.part().size();
    }

    private long paste(int child) {
        if (child < 0 || child > now.place.row.size()) {
            return -1;
        }
        if (now.clip == null) {
            return -2;
        }
        if (nodes() + now.clip.part().size() > 40 || now.place.row.size() == 6
                || now.place.depth() + 1 + now.clip.height() > 7) {
            return -3;
        }
        now.place.put(child, now.clip.copy(new HashMap<>()));
        return nodes();
    }

    private long mark(int mark) {
        if (mark < 0 || mark > 3) {
            return -1;
        }
        Node before = markedNode(mark);
        now.marks[mark] = now.place;
        return before == null ? 100 : number(before);
    }

    long nodeOf(int number, int what) {
        Node node = node(number);
        if (node == null || what < 0 || what > 7) {
            return -1;
        }
        int marks = 0;
        for (int mark = 0; mark < 4; mark++) {
            marks += markedNode(mark) == node ? 1 << mark : 0;
        }
        boolean top = node == now.top;
        return new long[] {node.letter, node.row.size(), top ? -4 : number(node.above), node.depth(),
            node.part().size(), top ? -4 : node.turn(), node.height(), marks}[what];
    }

    private List<Node> spineOf(Node node) {
        List<Node> spine = new ArrayList<>();
        for (Node on = node; on != null; on = on.above) {
            spine.add(0, on);
        }
        return spine;
    }

    private long spine(int depth, int what) {
        if (depth < 0 || what < 0 || what > 2) {
            return -1;
        }
        Node node = get(spineOf(now.place), depth);
        if (node == null) {
            return -4;
        }
        return what == 0 ? number(node) : what == 1 ? node.letter : depth == 0 ? 0 : node.turn();
    }

    long count(int what) {
        List<Node> all = now.top.part();
        switch (what) {
            case 0: return all.size();
            case 1: return all.indexOf(now.place);
            case 2: return now.place.depth();
            case 3: return all.stream().filter(n -> n.row.isEmpty()).count();
            case 4: return all.stream().mapToInt(Node::depth).max().getAsInt();
            case 5: return now.walks.size();
            case 6: return now.clip == null ? 0 : now.clip.part().size();
            case 7: return history.size();
            case 8: return text.length();
            case 9: return new TreeSet<>(all.stream().map(n -> n.letter).toList()).size();
            default: return -1;
        }
    }

    private long meet(int one, int other) {
        if (node(one) == null || node(other) == null) {
            return -1;
        }
        List<Node> common = spineOf(node(one));
        common.retainAll(spineOf(node(other)));
        return number(common.get(common.size() - 1));
    }

    private long find(int letter) {
        if (wrongLetter(letter)) {
            return -1;
        }
        int nodes = nodes();
        for (int i = 1; i <= nodes; i++) {
            int number = (number(now.place) + i) % nodes;
            if (node(number).letter == letter) {
                return number;
            }
        }
        return -4;
    }

    private long undo() {
        if (history.isEmpty()) {
            return -2;
        }
        now = history.removeLast();
        return history.size();
    }

    private long type(int character) {
        if (character < 32 || character > 126) {
            return -1;
        }
        if (text.length() == 120) {
            return -3;
        }
        text += (char) character;
        return text.length();
    }

    private long clearText() {
        int before = text.length();
        text = "";
        return before;
    }

    private long write() {
        text = now.top.told();
        return text.length();
    }

    private long read() {
        if (fault() != null) {
            return -2;
        }
        Node clip = now.clip;
        now = new State();
        now.clip = clip;
        now.top = treeRead;
        now.place = treeRead;
        return nodes();
    }

    // A reader that goes down by calling itself: the place and the reason of the fault, or null.
    private int at;
    private int nodesRead;
    private Node treeRead;

    private static final class Fault extends Exception {
        private static final long serialVersionUID = 1;
        final int place;
        final int reason;

        Fault(int place, int reason) {
            this.place = place;
            this.reason = reason;
        }
    }

    private int[] fault() {
        at = 0;
        nodesRead = 0;
        try {
            treeRead = readNode(0);
            if (at < text.length()) {
                throw new Fault(at, 1);
            }
            return null;
        } catch (Fault fault) {
            return new int[] {fault.place, fault.reason};
        }
    }

    private char sign() {
        return at < text.length() ? text.charAt(at) : '\n';
    }

    private Node readNode(int depth) throws Fault {
        if (sign() < 'a' || sign() > 'z') {
            throw new Fault(at, 1);
        }
        if (++nodesRead > 40) {
            throw new Fault(at, 2);
        }
        Node node = new Node(sign() - 'a');
        at++;
        if (sign() != '(') {
            return node;
        }
        if (depth == 7) {
            throw new Fault(at, 3);
        }
        do {
            if (node.row.size() == 6) {
                throw new Fault(at, 4);
            }
            at++;
            node.put(node.row.size(), readNode(depth + 1));
        } while (sign() == ',');
        if (sign() != ')') {
            throw new Fault(at, 1);
        }
        at++;
        return node;
    }

    @Override
    public String toString() {
        return now.top.told() + " at " + number(now.place) + " marks " + Arrays.toString(now.marks);
    }
}
