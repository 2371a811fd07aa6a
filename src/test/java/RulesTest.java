import java.io.IOException;
import java.lang.management.ManagementFactory;
import java.nio.file.Files;
import java.nio.file.Path;
import java.util.List;
import java.util.regex.Matcher;
import java.util.regex.Pattern;

/** Rules 3 to 12 of LANGUAGE.md, as far as the text of the program and its room show them. */
public final class RulesTest {
    private static final Due due = new Due("RulesTest");
    private static final Path PROGRAM = Path.of("src/main/java/TreePlaces.java");

    public static void main(String[] args) throws IOException {
        String program = Files.readString(PROGRAM).replaceAll("(?s)/\\*.*?\\*/", "").replaceAll("//[^\n]*", "");
        wordsThatMayNotStand(program);
        libraryThatMayStand(program);
        methodsAreShort(program);
        room();
        due.end();
    }

    private static void wordsThatMayNotStand(String program) {
        for (String word : List.of("package", "import", "throw", "throws", "try", "catch", "finally", "synchronized",
                "assert", "protected", "volatile", "native", "equals", "hashCode", "toString", "Object", "var", "goto")) {
            due.holds("the word " + word + " stands in the program",
                    !Pattern.compile("\\b" + word + "\\b").matcher(program).find());
        }
        for (String sign : List.of("->", "::", "\"", "@", "<>")) {
            due.holds("the sign " + sign + " stands in the program", !program.contains(sign));
        }
        due.holds("a sign beyond 127 stands in the program", program.chars().allMatch(sign -> sign < 128));
    }

    private static void libraryThatMayStand(String program) {
        Matcher used = Pattern.compile("\\b([A-Z][a-z]+)\\.(\\w+)").matcher(program);
        while (used.find()) {
            due.holds(used.group() + " is not in the library of the rules",
                    List.of("Math.min", "Math.max", "Integer.bitCount").contains(used.group()));
        }
    }

    private static void methodsAreShort(String program) {
        Matcher method = Pattern.compile("(?ms)^( +)(?:[\\w\\[\\]]+ )*\\w+\\(([^)]*)\\) \\{\n(.*?)^\\1\\}").matcher(program);
        int methods = 0;
        for (int from = 0; method.find(from); from = method.end(2)) {
            methods++;
            String name = method.group().trim().split("\n")[0];
            due.holds(name + " is longer than 60 lines", method.group(3).lines().count() <= 60);
            due.holds(name + " takes more than 7 numbers", method.group(2).split(",").length <= 7);
        }
        due.holds("methods are found", methods > 60);
    }

    /** An object and its 512 calls, measured after a first run that loads the classes. */
    private static void room() {
        com.sun.management.ThreadMXBean threads =
                (com.sun.management.ThreadMXBean) ManagementFactory.getThreadMXBean();
        long bytes = Long.MAX_VALUE;
        for (int run = 0; run < 3; run++) {
            long before = threads.getCurrentThreadAllocatedBytes();
            callEverything();
            bytes = Math.min(bytes, threads.getCurrentThreadAllocatedBytes() - before);
        }
        due.holds("a run of 512 calls makes " + bytes + " bytes", bytes < 64 * 1024);
    }

    private static void callEverything() {
        TreePlaces x = new TreePlaces();
        for (int i = 0; i < 16; i++) {
            x.child(0, i);
            x.down(0);
            x.beside(1, 4);
            x.side(1);
            x.exchange(0);
            x.mark(i % 4);
            x.step(0);
            x.copy();
            x.paste(0);
            x.goTo(i % 4);
            x.wrap(7);
            x.letter(8);
            x.lift();
            x.up();
            x.back();
            x.cut();
            x.delete();
            x.undo();
            x.top();
            x.type('a');
            x.fault(0);
            x.write();
            x.read();
            x.clearText();
            x.nodeOf(0, 6);
            x.spine(0, 0);
            x.marked(0);
            x.count(9);
            x.like();
            x.meet(0, 0);
            x.find(3);
            x.undo();
        }
    }
}
