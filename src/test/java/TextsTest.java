/** Promises 28 to 32: trees as texts. */
public final class TextsTest {
    private static final Due due = new Due("TextsTest");
    private static final int LEAST = Integer.MIN_VALUE;
    private static final int GREATEST = Integer.MAX_VALUE;

    public static void main(String[] args) {
        type();
        clearText();
        write();
        fault();
        faultsOfLimits();
        read();
        readAtLimits();
        due.end();
    }

    private static void type() {
        TreePlaces x = new TreePlaces();
        for (int wrong : new int[] {31, 127, 0, -1, 'a' + 65536, LEAST, GREATEST}) {
            due.is("type(" + wrong + ")", x.type(wrong), -1);
        }
        due.is("length after errors", x.count(8), 0);
        due.is("type(32)", x.type(32), 1);
        due.is("type(126)", x.type(126), 2);
        for (int length = 3; length <= 120; length++) {
            due.is("type", x.type('a'), length);
        }
        due.is("the hundred and twenty-first", x.type('a'), -3);
        due.is("a wrong one rather", x.type(127), -1);
        due.is("length at last", x.count(8), 120);
        due.is("type is not recorded", x.count(7), 0);
    }

    private static void clearText() {
        TreePlaces x = new TreePlaces();
        due.is("clearText() of none", x.clearText(), 0);
        Trees.type(x, "a(b)");
        due.is("clearText()", x.clearText(), 4);
        due.is("length then", x.count(8), 0);
        due.is("clearText() again", x.clearText(), 0);
        due.is("fault of the empty text", x.fault(0), 0);
        due.is("type after clearText", x.type('z'), 1);
        due.is("fault of the new text", x.fault(0), -4);
    }

    private static void write() {
        writeAndRead("a");
        writeAndRead("z(a)");
        writeAndRead("a(b,c)");
        writeAndRead("a(b(c(d)),e(f,g(h)),i)");
        writeAndRead(Trees.chain("abcdefgh"));
        writeAndRead(Trees.full());
        TreePlaces x = Trees.of("a(b,c)");
        Trees.type(x, "what was there ahead is gone");
        x.down(1);
        due.is("write() at another place", x.write(), 6);
        due.is("the place stays", x.count(1), 2);
        due.is("write is not recorded", x.count(7), 2);
    }

    private static void writeAndRead(String text) {
        TreePlaces x = Trees.of(text);
        due.is("write() of " + text, x.write(), text.length());
        due.is("length of " + text, x.count(8), text.length());
        due.is("fault of " + text, x.fault(1), -4);
        x.letter(25);
        x.read();
        due.is("tree that is read again", Trees.told(x), text);
    }

    private static void faultIs(String text, int place, int reason) {
        TreePlaces x = new TreePlaces();
        Trees.type(x, text);
        due.is("place of the fault of '" + text + "'", x.fault(0), place);
        due.is("reason of the fault of '" + text + "'", x.fault(1), reason);
        String before = Trees.all(x);
        due.is("read() of '" + text + "'", x.read(), reason < 0 ? Trees.of(text).count(0) : -2);
        if (reason >= 0) {
            due.is("state after an error of read", Trees.all(x), before);
        }
    }

    private static void fault() {
        for (String text : new String[] {"a", "z", "a(b)", "a(b,c)", "a(b(c,d),e)", "z(y(x(w)),v)"}) {
            faultIs(text, -4, -4);
        }
        for (String text : new String[] {"", "a(", "a(b", "a(b,", "a(b(c)", "a(b(c),d", "a(b(c,d(e))"}) {
            faultIs(text, text.length(), 1);
        }
        for (String first : new String[] {"(", ")", ",", "A", "Z", "`", "{", " ", "~", "1", "@"}) {
            faultIs(first, 0, 1);
            faultIs(first + "a", 0, 1);
            faultIs("a(" + first + ")", 2, 1);
            faultIs("a(b," + first, 4, 1);
        }
        for (String behind : new String[] {",", ")", "b", "A", " ", "*", "+"}) {
            faultIs("a" + behind, 1, 1);
            faultIs("a(b)" + behind, 4, 1);
        }
        for (String within : new String[] {"b", "B", " ", "*", "-"}) {
            faultIs("a(b" + within, 3, 1);
            faultIs("a(b(c)" + within, 6, 1);
        }
        faultIs("a(b)(c)", 4, 1);
        faultIs("a(b(c)(", 6, 1);
        faultIs("a(b))", 4, 1);
        faultIs("a()", 2, 1);
        faultIs("a(b,)", 4, 1);
        faultIs("a(,b)", 2, 1);
        faultIs("a((b))", 2, 1);
        // The first from the left is told, though there are others behind.
        faultIs("ab(c", 1, 1);
        TreePlaces x = new TreePlaces();
        for (int wrong : new int[] {-1, 2, LEAST, GREATEST}) {
            due.is("fault(" + wrong + ") of the empty text", x.fault(wrong), -1);
        }
        x.type('a');
        due.is("fault(2) of a tree", x.fault(2), -1);
        due.is("fault is not recorded", x.count(7), 0);
    }

    private static void faultsOfLimits() {
        String full = Trees.full();
        faultIs(full, -4, -4);
        String open = full.substring(0, full.length() - 2);
        faultIs(open, open.length(), 1);
        faultIs(open + ",", open.length() + 1, 1);
        faultIs(open + ",d", open.length() + 1, 2);
        faultIs(open + ",D", open.length() + 1, 1);
        faultIs(open + "(d", open.length() + 1, 2);
        faultIs(full + "d", full.length(), 1);

        String chain = "a(b(c(d(e(f(g(h";
        faultIs(chain + ")))))))", -4, -4);
        faultIs(chain + "(", chain.length(), 3);
        faultIs(chain + "(i))))))))", chain.length(), 3);
        faultIs(chain + ",h(", chain.length() + 2, 3);
        faultIs(chain + ")(", chain.length() + 1, 1);

        faultIs("a(b,b,b,b,b,b)", -4, -4);
        faultIs("a(b,b,b,b,b,b,", 13, 4);
        faultIs("a(b,b,b,b,b,b(c,d),b)", 18, 4);
        faultIs("a(b(c,c,c,c,c,c),b,b,b,b,b)", -4, -4);
        faultIs("a(b(c,c,c,c,c,c,c),b)", 15, 4);
        faultIs("a(b,b,b,b,b,b,,", 13, 4);
        faultIs("a(b,b(c,c),b,b,b,b(c,c,c,c,c,c),b", 31, 4);
    }

    private static void read() {
        TreePlaces x = Trees.of("a(b(c),d)");
        due.is("read() of the empty text", x.read(), -2);
        x.down(0);
        x.copy();
        x.mark(0);
        x.mark(3);
        x.down(0);
        Trees.type(x, "x(y,z(w),y)");
        due.is("read()", x.read(), 5);
        due.is("tree", Trees.told(x), "x(y,z(w),y)");
        due.is("state", Trees.all(x), "x(y,z(w),y) place 0 walks 0 clip 2 marks -4 -4 -4 -4 history 4 text 11");
        due.is("back() after read", x.back(), -2);
        due.is("read() again", x.read(), 5);
        x.paste(3);
        due.is("the clip stays", Trees.told(x), "x(y,z(w),y,b(c))");
        x.mark(0);
        x.read();
        due.is("the marks are at none", x.marked(0), -4);
        x.undo();
        due.is("undo of read", x.marked(0), 0);
        due.is("tree then", Trees.told(x), "x(y,z(w),y,b(c))");
    }

    private static void readAtLimits() {
        TreePlaces x = new TreePlaces();
        Trees.type(x, Trees.full());
        due.is("read() of 40 nodes", x.read(), 40);
        due.is("tree of 40 nodes", Trees.told(x), Trees.full());
        // Nothing of the forty is left when a small tree is read.
        Trees.type(x, "a(b)");
        due.is("read() of 2 nodes", x.read(), 2);
        x.down(0);
        x.mark(0);
        x.beside(0, 2);
        due.is("place then", x.count(1), 2);
        due.is("mark then", x.marked(0), 2);
        due.is("tree then", Trees.told(x), "a(c,b)");
        due.is("back then", x.back(), 0);

        // The fewest leaves make the longest text: five chains of 7 below the top, and one of 4.
        String chains = (Trees.chain("bcdefgh") + ",").repeat(5) + Trees.chain("wxyz");
        Trees.type(x, "a(" + chains + ")");
        due.is("length of the longest text of a tree", x.count(8), 113);
        due.is("read() of it", x.read(), 40);
        due.is("write() of it", x.write(), 113);
        due.is("fault of it", x.fault(0), -4);
    }
}
