/**
 * A place in a tree that is walked and edited, as ../shared/DOC.md promises.
 *
 * The nodes are held by their numbers, each with its letter and its depth: a part is then a run of
 * neighbours, and every change of the tree puts in, takes out or turns about such runs.
 */
public final class TreePlaces {
    public static final int INVALID_ARGUMENT = -1;
    public static final int NOT_POSSIBLE = -2;
    public static final int LIMIT_REACHED = -3;
    public static final int NOT_FOUND = -4;

    private static final int NODE_LIMIT = 40;
    private static final int CHILD_LIMIT = 6;
    private static final int DEPTH_LIMIT = 7;
    private static final int LETTER_LIMIT = 26;
    private static final int MARK_LIMIT = 4;
    private static final int WALK_LIMIT = 8;
    private static final int STATE_LIMIT = 4;
    private static final int TEXT_LIMIT = 120;

    private static final int LEAST_CHARACTER = 32;
    private static final int GREATEST_CHARACTER = 126;

    /** What mark() answers for a mark that was at no node. */
    private static final int WAS_AT_NONE = 100;

    /** Stands for a node, a key or a turn that there is not. */
    private static final int NONE = -1;

    private static final int NO_FAULT = 0;
    private static final int CANNOT_STAND = 1;
    private static final int TOO_MANY_NODES = 2;
    private static final int TOO_DEEP = 3;
    private static final int TOO_MANY_CHILDREN = 4;

    private final State now = new State();
    private final History history = new History();
    private final Row text = new Row(TEXT_LIMIT);
    private final Scan scan = new Scan();

    public TreePlaces() {
        now.putNodeIn(0, 0, 0);
    }

    // ---- walks

    public int down(int child) {
        if (child < 0) {
            return INVALID_ARGUMENT;
        }
        return walk(now.tree.childAt(now.place, child));
    }

    public int up() {
        return walk(now.tree.above(now.place));
    }

    public int side(int right) {
        if (!isChoice(right)) {
            return INVALID_ARGUMENT;
        }
        return walk(now.tree.neighbour(now.place, right));
    }

    public int step(int on) {
        if (!isChoice(on)) {
            return INVALID_ARGUMENT;
        }
        int number = on == 1 ? now.place + 1 : now.place - 1;
        return walk(now.tree.has(number) ? number : NONE);
    }

    public int top() {
        int depth = now.tree.depthOf(now.place);
        if (depth == 0) {
            return NOT_POSSIBLE;
        }
        walk(0);
        return depth;
    }

    public int back() {
        int turn = now.lastWalk();
        if (turn == NONE) {
            return NOT_POSSIBLE;
        }
        history.keep(now);
        now.takeWalksBack(turn);
        return now.place;
    }

    // ---- changes of the tree

    public int letter(int letter) {
        if (!isLetter(letter)) {
            return INVALID_ARGUMENT;
        }
        history.keep(now);
        int before = now.tree.letterOf(now.place);
        now.tree.setLetter(now.place, letter);
        return before;
    }

    public int child(int child, int letter) {
        int children = now.tree.childrenOf(now.place);
        if (child < 0 || child > children || !isLetter(letter)) {
            return INVALID_ARGUMENT;
        }
        int depth = now.tree.depthOf(now.place) + 1;
        if (now.tree.size() >= NODE_LIMIT || children >= CHILD_LIMIT || depth > DEPTH_LIMIT) {
            return LIMIT_REACHED;
        }
        history.keep(now);
        now.putNodeIn(now.tree.startOfChild(now.place, child), letter, depth);
        return children + 1;
    }

    public int beside(int right, int letter) {
        if (!isChoice(right) || !isLetter(letter)) {
            return INVALID_ARGUMENT;
        }
        int above = now.tree.above(now.place);
        if (above == NONE) {
            return NOT_POSSIBLE;
        }
        int children = now.tree.childrenOf(above);
        if (now.tree.size() >= NODE_LIMIT || children >= CHILD_LIMIT) {
            return LIMIT_REACHED;
        }
        history.keep(now);
        int depth = now.tree.depthOf(now.place);
        if (right == 1) {
            now.putNodeIn(now.tree.endOf(now.place), letter, depth);
        } else {
            now.putNodeIn(now.place, letter, depth);
            now.place++;
        }
        return children + 1;
    }

    public int delete() {
        if (now.place == 0) {
            return NOT_POSSIBLE;
        }
        history.keep(now);
        return now.takePlaceOut();
    }

    public int wrap(int letter) {
        if (!isLetter(letter)) {
            return INVALID_ARGUMENT;
        }
        int depth = now.tree.depthOf(now.place);
        if (now.tree.size() >= NODE_LIMIT || depth + now.tree.heightOf(now.place) >= DEPTH_LIMIT) {
            return LIMIT_REACHED;
        }
        history.keep(now);
        now.tree.shiftDepths(now.place, now.tree.endOf(now.place), 1);
        now.putNodeIn(now.place, letter, depth);
        return now.tree.size();
    }

    public int lift() {
        int above = now.tree.above(now.place);
        int children = now.tree.childrenOf(now.place);
        if (above == NONE && children != 1) {
            return NOT_POSSIBLE;
        }
        if (above != NONE && now.tree.childrenOf(above) - 1 + children > CHILD_LIMIT) {
            return LIMIT_REACHED;
        }
        history.keep(now);
        if (children == 0) {
            now.takePlaceOut();
        } else {
            now.tree.shiftDepths(now.place, now.tree.endOf(now.place), -1);
            now.takeNodesOut(now.place, now.place + 1);
        }
        return children;
    }

    public int exchange(int right) {
        if (!isChoice(right)) {
            return INVALID_ARGUMENT;
        }
        int other = now.tree.neighbour(now.place, right);
        if (other == NONE) {
            return NOT_POSSIBLE;
        }
        history.keep(now);
        int middle = Math.max(now.place, other);
        int end = now.tree.endOf(middle);
        int place = right == 1 ? now.place + end - middle : other;
        now.exchangeRuns(Math.min(now.place, other), middle, end);
        now.place = place;
        return now.tree.turnOf(place);
    }

    public int cut() {
        if (now.place == 0) {
            return NOT_POSSIBLE;
        }
        history.keep(now);
        now.clip.takePart(now.tree, now.place);
        return now.takePlaceOut();
    }

    public int copy() {
        history.keep(now);
        now.clip.takePart(now.tree, now.place);
        return now.clip.size();
    }

    public int paste(int child) {
        int children = now.tree.childrenOf(now.place);
        if (child < 0 || child > children) {
            return INVALID_ARGUMENT;
        }
        if (now.clip.size() == 0) {
            return NOT_POSSIBLE;
        }
        int depth = now.tree.depthOf(now.place) + 1;
        if (now.tree.size() + now.clip.size() > NODE_LIMIT || children >= CHILD_LIMIT
                || depth + now.clip.heightOf(0) > DEPTH_LIMIT) {
            return LIMIT_REACHED;
        }
        history.keep(now);
        now.putTreeIn(now.clip, now.tree.startOfChild(now.place, child), depth);
        return now.tree.size();
    }

    // ---- marks

    public int mark(int mark) {
        if (!isMark(mark)) {
            return INVALID_ARGUMENT;
        }
        history.keep(now);
        int before = now.numberOfMark(mark);
        now.putMarkAtPlace(mark);
        return before == NONE ? WAS_AT_NONE : before;
    }

    public int goTo(int mark) {
        if (!isMark(mark)) {
            return INVALID_ARGUMENT;
        }
        return walk(now.numberOfMark(mark));
    }

    // ---- what there is

    public int nodeOf(int number, int what) {
        if (!now.tree.has(number)) {
            return INVALID_ARGUMENT;
        }
        switch (what) {
            case 0:
                return now.tree.letterOf(number);
            case 1:
                return now.tree.childrenOf(number);
            case 2:
                return orNotFound(now.tree.above(number));
            case 3:
                return now.tree.depthOf(number);
            case 4:
                return now.tree.endOf(number) - number;
            case 5:
                return orNotFound(now.tree.turnOf(number));
            case 6:
                return now.tree.heightOf(number);
            case 7:
                return now.marksAt(number);
            default:
                return INVALID_ARGUMENT;
        }
    }

    public int spine(int depth, int what) {
        if (depth < 0 || what < 0 || what > 2) {
            return INVALID_ARGUMENT;
        }
        int number = now.tree.onSpine(now.place, depth);
        if (number == NONE) {
            return NOT_FOUND;
        }
        if (what == 0) {
            return number;
        }
        if (what == 1) {
            return now.tree.letterOf(number);
        }
        return number == 0 ? 0 : now.tree.turnOf(number);
    }

    public int marked(int mark) {
        if (!isMark(mark)) {
            return INVALID_ARGUMENT;
        }
        return orNotFound(now.numberOfMark(mark));
    }

    public int count(int what) {
        switch (what) {
            case 0:
                return now.tree.size();
            case 1:
                return now.place;
            case 2:
                return now.tree.depthOf(now.place);
            case 3:
                return now.tree.leaves();
            case 4:
                return now.tree.heightOf(0);
            case 5:
                return now.walks.size();
            case 6:
                return now.clip.size();
            case 7:
                return history.size();
            case 8:
                return text.size();
            case 9:
                return now.tree.unlikeLetters();
            default:
                return INVALID_ARGUMENT;
        }
    }

    // ---- what is found

    public int like() {
        int alike = 0;
        for (int number = 0; number < now.tree.size(); number++) {
            if (now.tree.alike(number, now.place)) {
                alike++;
            }
        }
        return alike;
    }

    public int meet(int one, int other) {
        if (!now.tree.has(one) || !now.tree.has(other)) {
            return INVALID_ARGUMENT;
        }
        int greater = Math.max(one, other);
        // The deepest node above both has the greatest number of all that are above both.
        for (int number = Math.min(one, other); number > 0; number--) {
            if (now.tree.endOf(number) > greater) {
                return number;
            }
        }
        return 0;
    }

    public int find(int letter) {
        if (!isLetter(letter)) {
            return INVALID_ARGUMENT;
        }
        for (int number = now.place + 1; number < now.tree.size(); number++) {
            if (now.tree.letterOf(number) == letter) {
                return number;
            }
        }
        for (int number = 0; number <= now.place; number++) {
            if (now.tree.letterOf(number) == letter) {
                return number;
            }
        }
        return NOT_FOUND;
    }

    public int undo() {
        if (history.size() == 0) {
            return NOT_POSSIBLE;
        }
        history.restore(now);
        return history.size();
    }

    // ---- texts

    public int type(int character) {
        if (character < LEAST_CHARACTER || character > GREATEST_CHARACTER) {
            return INVALID_ARGUMENT;
        }
        if (text.size() >= TEXT_LIMIT) {
            return LIMIT_REACHED;
        }
        text.add(character);
        return text.size();
    }

    public int clearText() {
        int before = text.size();
        text.clear();
        return before;
    }

    public int write() {
        text.clear();
        now.tree.appendTo(text);
        return text.size();
    }

    public int fault(int what) {
        if (!isChoice(what)) {
            return INVALID_ARGUMENT;
        }
        scan.passOver(text);
        if (scan.reason == NO_FAULT) {
            return NOT_FOUND;
        }
        return what == 0 ? scan.faultPlace : scan.reason;
    }

    public int read() {
        scan.passOver(text);
        if (scan.reason != NO_FAULT) {
            return NOT_POSSIBLE;
        }
        history.keep(now);
        now.beginWith(scan.tree);
        return now.tree.size();
    }

    // ---- what the calls share

    /** Walks to a node and tells its number; NONE is where no walk leads. */
    private int walk(int number) {
        if (number == NONE) {
            return NOT_POSSIBLE;
        }
        history.keep(now);
        now.walkTo(number);
        return number;
    }

    private static int orNotFound(int value) {
        return value == NONE ? NOT_FOUND : value;
    }

    private static boolean isChoice(int value) {
        return value == 0 || value == 1;
    }

    private static boolean isLetter(int value) {
        return value >= 0 && value < LETTER_LIMIT;
    }

    private static boolean isMark(int value) {
        return value >= 0 && value < MARK_LIMIT;
    }

    /**
     * Numbers in a row, as many as there is room for. All arrays of numbers are in here, so that an
     * index is tested at the one place where it is used.
     */
    private static final class Row {
        private final int[] cells;
        private int size;

        Row(int room) {
            cells = new int[Math.max(room, 0)];
        }

        int size() {
            return size;
        }

        int at(int index) {
            return index >= 0 && index < size && index < cells.length ? cells[index] : NONE;
        }

        void put(int index, int value) {
            if (index >= 0 && index < size && index < cells.length) {
                cells[index] = value;
            }
        }

        void add(int value) {
            putIn(size, value);
        }

        void putIn(int index, int value) {
            if (index < 0 || index > size || size >= cells.length) {
                return;
            }
            for (int i = size; i > index; i--) {
                cells[i] = cells[i - 1];
            }
            cells[index] = value;
            size++;
        }

        void takeOut(int from, int to) {
            if (from < 0 || to < from || to > size) {
                return;
            }
            for (int i = to; i < size; i++) {
                put(from + i - to, at(i));
            }
            size -= to - from;
        }

        void turnAbout(int from, int to) {
            for (int low = from, high = to - 1; low < high; low++, high--) {
                int value = at(low);
                put(low, at(high));
                put(high, value);
            }
        }

        /** Two neighbouring runs change places if both together and then each are turned about. */
        void exchangeRuns(int from, int middle, int to) {
            turnAbout(from, to);
            turnAbout(from, from + to - middle);
            turnAbout(from + to - middle, to);
        }

        void clear() {
            size = 0;
        }

        void takeFrom(Row other) {
            size = Math.min(other.size, Math.min(other.cells.length, cells.length));
            for (int i = 0; i < size; i++) {
                cells[i] = other.cells[i];
            }
        }
    }

    /** The letters and depths of nodes by their numbers: a tree, a clip, or nothing. */
    private static final class Tree {
        private final Row letters = new Row(NODE_LIMIT);
        private final Row depths = new Row(NODE_LIMIT);

        int size() {
            return letters.size();
        }

        boolean has(int number) {
            return number >= 0 && number < size();
        }

        int letterOf(int number) {
            return letters.at(number);
        }

        void setLetter(int number, int letter) {
            letters.put(number, letter);
        }

        int depthOf(int number) {
            return depths.at(number);
        }

        /** The number behind the last node of the part. */
        int endOf(int number) {
            for (int i = number + 1; i < depths.size(); i++) {
                if (depths.at(i) <= depths.at(number)) {
                    return i;
                }
            }
            return depths.size();
        }

        /** The node of that depth that is above the node or is the node. */
        int onSpine(int number, int depth) {
            if (depth < 0 || depth > depthOf(number)) {
                return NONE;
            }
            for (int i = number; i >= 0; i--) {
                if (depthOf(i) == depth) {
                    return i;
                }
            }
            return NONE;
        }

        int above(int number) {
            return onSpine(number, depthOf(number) - 1);
        }

        int childrenOf(int number) {
            int children = 0;
            int end = endOf(number);
            for (int i = number + 1; i < end; i++) {
                if (depthOf(i) == depthOf(number) + 1) {
                    children++;
                }
            }
            return children;
        }

        /** The number that a node put in as this child would have. */
        int startOfChild(int number, int child) {
            int ahead = child;
            int end = endOf(number);
            for (int i = number + 1; i < end; i++) {
                if (depthOf(i) == depthOf(number) + 1) {
                    if (ahead == 0) {
                        return i;
                    }
                    ahead--;
                }
            }
            return end;
        }

        int childAt(int number, int child) {
            return child >= 0 && child < childrenOf(number) ? startOfChild(number, child) : NONE;
        }

        /** Which child of the node above it is; NONE for the top. */
        int turnOf(int number) {
            int above = above(number);
            if (above == NONE) {
                return NONE;
            }
            int turn = 0;
            for (int i = above + 1; i < number; i++) {
                if (depthOf(i) == depthOf(number)) {
                    turn++;
                }
            }
            return turn;
        }

        /** The child beside it of the node above: the next one for 1, the one ahead for 0. */
        int neighbour(int number, int right) {
            return right == 1 ? next(number) : ahead(number);
        }

        private int next(int number) {
            int end = endOf(number);
            return depthOf(end) == depthOf(number) ? end : NONE;
        }

        private int ahead(int number) {
            for (int i = number - 1; i >= 0 && depthOf(i) >= depthOf(number); i--) {
                if (depthOf(i) == depthOf(number)) {
                    return i;
                }
            }
            return NONE;
        }

        int heightOf(int number) {
            int deepest = depthOf(number);
            int end = endOf(number);
            for (int i = number; i < end; i++) {
                deepest = Math.max(deepest, depthOf(i));
            }
            return deepest - depthOf(number);
        }

        int leaves() {
            int leaves = 0;
            for (int i = 0; i < size(); i++) {
                if (childrenOf(i) == 0) {
                    leaves++;
                }
            }
            return leaves;
        }

        int unlikeLetters() {
            int seen = 0;
            for (int i = 0; i < size(); i++) {
                seen |= 1 << letterOf(i);
            }
            return Integer.bitCount(seen);
        }

        /** Whether two parts have the same letters in the same tree. */
        boolean alike(int one, int other) {
            int length = endOf(one) - one;
            if (length != endOf(other) - other) {
                return false;
            }
            int deeper = depthOf(other) - depthOf(one);
            for (int i = 0; i < length; i++) {
                if (letterOf(one + i) != letterOf(other + i)
                        || depthOf(one + i) + deeper != depthOf(other + i)) {
                    return false;
                }
            }
            return true;
        }

        void clear() {
            letters.clear();
            depths.clear();
        }

        void putIn(int number, int letter, int depth) {
            letters.putIn(number, letter);
            depths.putIn(number, depth);
        }

        void takeOut(int from, int to) {
            letters.takeOut(from, to);
            depths.takeOut(from, to);
        }

        void shiftDepths(int from, int to, int by) {
            for (int i = from; i < to; i++) {
                depths.put(i, depths.at(i) + by);
            }
        }

        void exchangeRuns(int from, int middle, int to) {
            letters.exchangeRuns(from, middle, to);
            depths.exchangeRuns(from, middle, to);
        }

        void takeFrom(Tree other) {
            letters.takeFrom(other.letters);
            depths.takeFrom(other.depths);
        }

        /** Becomes a copy of a part of another tree. */
        void takePart(Tree other, int number) {
            clear();
            int end = other.endOf(number);
            for (int i = number; i < end; i++) {
                putIn(size(), other.letterOf(i), other.depthOf(i) - other.depthOf(number));
            }
        }

        void appendTo(Row text) {
            int open = 0;
            for (int i = 0; i < size(); i++) {
                if (depthOf(i) > open) {
                    text.add('(');
                } else if (i > 0) {
                    appendClosings(text, open - depthOf(i));
                    text.add(',');
                }
                open = depthOf(i);
                text.add('a' + letterOf(i));
            }
            appendClosings(text, open);
        }

        private static void appendClosings(Row text, int closings) {
            for (int i = 0; i < closings; i++) {
                text.add(')');
            }
        }
    }

    /** All that undo brings back. */
    private static final class State {
        private final Tree tree = new Tree();
        private final Tree clip = new Tree();
        /**
         * The key of each node of the tree. Numbers change with the tree and keys do not, so walks
         * and marks hold keys; a key that is not in here is that of a node that is gone.
         */
        private final Row keys = new Row(NODE_LIMIT);
        private final Row walks = new Row(WALK_LIMIT);
        private final Row marks = new Row(MARK_LIMIT);
        private int place;
        private int keysGiven;

        State() {
            clearMarks();
        }

        void takeFrom(State other) {
            tree.takeFrom(other.tree);
            clip.takeFrom(other.clip);
            keys.takeFrom(other.keys);
            walks.takeFrom(other.walks);
            marks.takeFrom(other.marks);
            place = other.place;
            // Keys given since may be given anew: all that held them is taken back too.
            keysGiven = other.keysGiven;
        }

        /** Begins anew at the top of a tree, with nothing kept but the clip. */
        void beginWith(Tree other) {
            tree.clear();
            keys.clear();
            walks.clear();
            clearMarks();
            place = 0;
            putTreeIn(other, 0, 0);
        }

        private void clearMarks() {
            marks.clear();
            for (int i = 0; i < MARK_LIMIT; i++) {
                marks.add(NONE);
            }
        }

        void putNodeIn(int number, int letter, int depth) {
            tree.putIn(number, letter, depth);
            keys.putIn(number, keysGiven);
            keysGiven++;
        }

        void putTreeIn(Tree other, int number, int depth) {
            int nodes = other.size();
            for (int i = 0; i < nodes; i++) {
                putNodeIn(number + i, other.letterOf(i), depth + other.depthOf(i));
            }
        }

        void takeNodesOut(int from, int to) {
            tree.takeOut(from, to);
            keys.takeOut(from, to);
        }

        /** Takes the part at the place out and tells how many nodes are gone. */
        int takePlaceOut() {
            int from = place;
            int to = tree.endOf(from);
            place = placeWithoutPart();
            takeNodesOut(from, to);
            return to - from;
        }

        private int placeWithoutPart() {
            if (tree.neighbour(place, 1) != NONE) {
                // The next child moves up to the number of the one that goes.
                return place;
            }
            int ahead = tree.neighbour(place, 0);
            return ahead != NONE ? ahead : Math.max(tree.above(place), 0);
        }

        void exchangeRuns(int from, int middle, int to) {
            tree.exchangeRuns(from, middle, to);
            keys.exchangeRuns(from, middle, to);
        }

        private int numberOfKey(int key) {
            for (int i = 0; i < keys.size(); i++) {
                if (keys.at(i) == key) {
                    return i;
                }
            }
            return NONE;
        }

        void walkTo(int number) {
            if (number == place) {
                return;
            }
            if (walks.size() >= WALK_LIMIT) {
                walks.takeOut(0, 1);
            }
            walks.add(keys.at(place));
            place = number;
        }

        /** The turn of the last walk that leads back to another node than the place. */
        int lastWalk() {
            for (int turn = walks.size() - 1; turn >= 0; turn--) {
                int number = numberOfKey(walks.at(turn));
                if (number != NONE && number != place) {
                    return turn;
                }
            }
            return NONE;
        }

        void takeWalksBack(int turn) {
            place = Math.max(numberOfKey(walks.at(turn)), 0);
            walks.takeOut(turn, walks.size());
        }

        int numberOfMark(int mark) {
            return numberOfKey(marks.at(mark));
        }

        void putMarkAtPlace(int mark) {
            marks.put(mark, keys.at(place));
        }

        int marksAt(int number) {
            int set = 0;
            for (int mark = 0; mark < MARK_LIMIT; mark++) {
                if (numberOfMark(mark) == number) {
                    set |= 1 << mark;
                }
            }
            return set;
        }
    }

    /** The latest states, in slots that are made once and used in turn. */
    private static final class History {
        private final State[] slots = new State[STATE_LIMIT];
        private int oldest;
        private int size;

        History() {
            for (int i = 0; i < slots.length; i++) {
                slots[i] = new State();
            }
        }

        int size() {
            return size;
        }

        void keep(State state) {
            if (size >= STATE_LIMIT) {
                oldest = (oldest + 1) % STATE_LIMIT;
                size--;
            }
            State slot = slotAt(size);
            if (slot != null) {
                slot.takeFrom(state);
                size++;
            }
        }

        void restore(State state) {
            State slot = size > 0 ? slotAt(size - 1) : null;
            if (slot != null) {
                state.takeFrom(slot);
                size--;
            }
        }

        private State slotAt(int turn) {
            int index = (oldest + turn) % STATE_LIMIT;
            return index >= 0 && index < slots.length ? slots[index] : null;
        }
    }

    /** Passes over a text from the left, up to its first fault, and builds the tree that it tells. */
    private static final class Scan {
        private final Tree tree = new Tree();
        /** For each "(" that is open, how many children it has so far. */
        private final Row open = new Row(DEPTH_LIMIT);
        private boolean letterIsDue;
        /** Whether a letter is the last character, where none is due. */
        private boolean mayOpen;
        private int faultPlace;
        private int reason;

        void passOver(Row text) {
            tree.clear();
            open.clear();
            letterIsDue = true;
            reason = NO_FAULT;
            for (int i = 0; i < text.size() && reason == NO_FAULT; i++) {
                faultPlace = i;
                reason = reasonAgainst(text.at(i));
            }
            if (reason == NO_FAULT && (letterIsDue || open.size() > 0)) {
                faultPlace = text.size();
                reason = CANNOT_STAND;
            }
        }

        private int reasonAgainst(int character) {
            if (letterIsDue) {
                return passLetter(character - 'a');
            }
            if (character == '(') {
                return passOpening();
            }
            if (open.size() == 0) {
                return CANNOT_STAND;
            }
            if (character == ',') {
                return passComma();
            }
            if (character == ')') {
                return passClosing();
            }
            return CANNOT_STAND;
        }

        private int passLetter(int letter) {
            if (!isLetter(letter)) {
                return CANNOT_STAND;
            }
            if (tree.size() >= NODE_LIMIT) {
                return TOO_MANY_NODES;
            }
            tree.putIn(tree.size(), letter, open.size());
            int last = open.size() - 1;
            open.put(last, open.at(last) + 1);
            letterIsDue = false;
            mayOpen = true;
            return NO_FAULT;
        }

        private int passOpening() {
            if (!mayOpen) {
                return CANNOT_STAND;
            }
            if (open.size() >= DEPTH_LIMIT) {
                return TOO_DEEP;
            }
            open.add(0);
            letterIsDue = true;
            return NO_FAULT;
        }

        private int passComma() {
            if (open.at(open.size() - 1) >= CHILD_LIMIT) {
                return TOO_MANY_CHILDREN;
            }
            letterIsDue = true;
            return NO_FAULT;
        }

        private int passClosing() {
            open.takeOut(open.size() - 1, open.size());
            mayOpen = false;
            return NO_FAULT;
        }
    }
}
