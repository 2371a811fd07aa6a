import java.util.ArrayList;
import java.util.List;
import java.util.Map;
import java.util.TreeMap;

/** All promises: many runs of calls, each answer held against that of the model. */
public final class ModelTest {
    private static final Due due = new Due("ModelTest");
    private static final int RUNS = 6000;
    private static final int CALLS = 512;

    private static final String[] WALKS = {"down", "down", "up", "side", "side", "step", "step", "top", "back", "back", "goTo", "goTo"};
    private static final String[] GROWTH = {"child", "child", "child", "beside", "beside", "wrap", "paste", "copy"};
    private static final String[] CHANGES = {"letter", "delete", "lift", "lift", "exchange", "exchange", "cut", "copy", "paste", "mark", "mark"};
    private static final String[] QUESTIONS = {"nodeOf", "nodeOf", "spine", "marked", "count", "count", "like", "meet", "find"};
    private static final String[] TEXTS = {"type", "clearText", "write", "fault", "fault", "read", "read"};
    private static final int[] WILD = {Integer.MIN_VALUE, Integer.MAX_VALUE, -1, -2, 1 << 16, 40, 41, 100};

    /** The errors that each call can answer; the runs must have met them all, and answers too. */
    private static final String ERRORS = "down -1 -2, up -2, side -1 -2, step -1 -2, top -2, back -2, letter -1, "
            + "child -1 -3, beside -1 -2 -3, delete -2, wrap -1 -3, lift -2 -3, exchange -1 -2, cut -2, copy, "
            + "paste -1 -2 -3, mark -1, goTo -1 -2, nodeOf -1 -4, spine -1 -4, marked -1 -4, count -1, like, meet -1, "
            + "find -1 -4, undo -2, type -1 -3, clearText, write, fault -1 -4, read -2";
    private static final int OFTEN = 30;
    private static final Map<String, Integer> met = new TreeMap<>();

    private long seed;
    private final TreePlaces x = new TreePlaces();
    private final Model model = new Model();
    private final List<String> told = new ArrayList<>();
    private final int letters;
    private final int growth;
    private final int undos;
    private int left = CALLS;

    private ModelTest(int run) {
        seed = run * 7919L + 17;
        letters = new int[] {1, 2, 3, 26}[below(4)];
        growth = below(60);
        undos = below(12);
    }

    public static void main(String[] args) {
        for (int run = 0; run < RUNS && due.wrong() < 5; run++) {
            new ModelTest(run).run();
        }
        everythingIsMet();
        due.end();
    }

    private static void everythingIsMet() {
        for (String call : ERRORS.split(", ")) {
            String[] words = call.split(" ");
            isMet(words[0] + " 0");
            for (int i = 1; i < words.length; i++) {
                isMet(words[0] + " " + words[i]);
            }
        }
        for (int reason = 1; reason <= 4; reason++) {
            isMet("reason " + reason);
        }
        due.is("kinds of answers", met.size(), 31 + ERRORS.replaceAll("[^-]", "").length() + 4);
    }

    private static void isMet(String kind) {
        due.holds(kind + " is met but " + met.getOrDefault(kind, 0) + " times", met.getOrDefault(kind, 0) >= OFTEN);
    }

    /** The same numbers in every run of the test: it must not answer otherwise another time. */
    private int below(int bound) {
        seed = seed * 6364136223846793005L + 1442695040888963407L;
        return (int) ((seed >>> 33) % bound);
    }

    private void run() {
        while (left > 0 && due.wrong() < 5) {
            if (below(100) < 4) {
                typeTree();
            } else {
                ask(anyCall());
            }
        }
    }

    private String anyCall() {
        int part = below(100);
        if (part < undos) {
            return "undo";
        }
        if (below(100) < growth) {
            return GROWTH[below(GROWTH.length)];
        }
        String[][] parts = {WALKS, WALKS, CHANGES, QUESTIONS, QUESTIONS, TEXTS};
        String[] calls = parts[below(parts.length)];
        return calls[below(calls.length)];
    }

    private void ask(String call) {
        int a = argument(call, true);
        int b = argument(call, false);
        ask(call, a, b);
    }

    /** Asks no more than the calls that an object is promised for; texts may end early by that. */
    private void ask(String call, int a, int b) {
        if (left == 0) {
            return;
        }
        left--;
        long got = call(call, a, b);
        long want = model.answer(call, a, b);
        told.add(call + "(" + a + ", " + b + ") = " + want);
        met.merge(call + " " + Math.min(want, 0), 1, Integer::sum);
        if (call.equals("fault") && a == 1 && want > 0) {
            met.merge("reason " + want, 1, Integer::sum);
        }
        if (got != want) {
            due.is(told + ": the last", got, want);
            return;
        }
        due.is(call, got, want);
    }

    private int children() {
        return (int) model.nodeOf((int) model.count(1), 1);
    }

    private int argument(String call, boolean first) {
        if (below(40) == 0) {
            return WILD[below(WILD.length)];
        }
        switch (call) {
            case "letter": case "wrap": case "find":
                return below(30) == 0 ? 26 : below(letters);
            case "child":
                return first ? below(30) == 0 ? below(8) : below(children() + 1) : below(letters);
            case "paste": case "down":
                return below(children() + 1);
            case "beside":
                return first ? below(2) : below(letters);
            case "mark": case "goTo": case "marked":
                return below(4);
            case "nodeOf":
                return first ? below((int) model.count(0)) : below(9);
            case "meet":
                return below((int) model.count(0) + (below(10) == 0 ? 1 : 0));
            case "spine":
                return first ? below((int) model.count(2) + 2) : below(3);
            case "count":
                return below(10);
            case "type":
                return below(2) == 0 ? "abz(),".charAt(below(6)) : 30 + below(100);
            default:
                return below(20) == 0 ? 2 : below(2);
        }
    }

    /** A text that is near to a tree, of many kinds: small, broad, deep, too large. */
    private void typeTree() {
        ask("clearText", 0, 0);
        StringBuilder text = new StringBuilder();
        grow(text, 0, below(9), below(8));
        if (below(3) == 0 && text.length() > 0) {
            text.setCharAt(below(text.length()), "abz(), A{`".charAt(below(10)));
        }
        if (below(5) == 0) {
            text.setLength(below(text.length() + 1));
        }
        for (char character : text.toString().toCharArray()) {
            ask("type", character, 0);
        }
        ask("fault", 0, 0);
        ask("fault", 1, 0);
        ask("read", 0, 0);
    }

    private void grow(StringBuilder text, int depth, int deepest, int broadest) {
        text.append((char) ('a' + below(letters)));
        int children = depth >= deepest ? 0 : below(broadest + 1);
        if (below(200) == 0) {
            children = 7;
        }
        for (int i = 0; i < children && text.length() < 130; i++) {
            text.append(i == 0 ? '(' : ',');
            grow(text, depth + 1, deepest, i > 0 && below(2) == 0 ? 0 : broadest);
        }
        text.append(children > 0 ? ")" : "");
    }

    private long call(String call, int a, int b) {
        switch (call) {
            case "down": return x.down(a);
            case "up": return x.up();
            case "side": return x.side(a);
            case "step": return x.step(a);
            case "top": return x.top();
            case "back": return x.back();
            case "letter": return x.letter(a);
            case "child": return x.child(a, b);
            case "beside": return x.beside(a, b);
            case "delete": return x.delete();
            case "wrap": return x.wrap(a);
            case "lift": return x.lift();
            case "exchange": return x.exchange(a);
            case "cut": return x.cut();
            case "copy": return x.copy();
            case "paste": return x.paste(a);
            case "mark": return x.mark(a);
            case "goTo": return x.goTo(a);
            case "nodeOf": return x.nodeOf(a, b);
            case "spine": return x.spine(a, b);
            case "marked": return x.marked(a);
            case "count": return x.count(a);
            case "like": return x.like();
            case "meet": return x.meet(a, b);
            case "find": return x.find(a);
            case "undo": return x.undo();
            case "type": return x.type(a);
            case "clearText": return x.clearText();
            case "write": return x.write();
            case "fault": return x.fault(a);
            case "read": return x.read();
            default: throw new IllegalArgumentException(call);
        }
    }
}
