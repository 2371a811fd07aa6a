/**
 * All that calls can tell of an object. Much is told only by calls that change it (the places put
 * down, the nodes of the clip, the states, the characters of the text), so there are several ways,
 * and each spends its object.
 */
final class Told {
    static final int WAYS = 5;

    private Told() {
    }

    static String by(int way, TreePlaces x) {
        switch (way) {
            case 0:
                return Trees.all(x) + " fault " + x.fault(0) + " " + x.fault(1);
            case 1:
                return byBack(x);
            case 2:
                return byPaste(x);
            case 3:
                return byUndo(x);
            default:
                return byRead(x);
        }
    }

    private static String byBack(TreePlaces x) {
        StringBuilder told = new StringBuilder("walks");
        for (int number = x.back(); number >= 0; number = x.back()) {
            told.append(' ').append(number);
        }
        return told.toString();
    }

    private static String byPaste(TreePlaces x) {
        Trees.type(x, "a");
        x.read();
        return "clip " + x.paste(0) + " " + Trees.told(x);
    }

    private static String byUndo(TreePlaces x) {
        StringBuilder told = new StringBuilder("states");
        for (int left = x.undo(); left >= 0; left = x.undo()) {
            told.append(' ').append(left).append(' ').append(Trees.state(x));
        }
        return told.toString();
    }

    private static String byRead(TreePlaces x) {
        return "text " + x.count(8) + " " + x.read() + " " + Trees.told(x);
    }
}
