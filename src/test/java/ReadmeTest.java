import java.io.IOException;
import java.nio.file.Files;
import java.nio.file.Path;

/** The calls that README.md shows answer what it tells behind them. */
public final class ReadmeTest {
    private static final String BEGIN = "FindTree t = new FindTree();\n";

    private static final FindTree t = new FindTree();
    private static String[] rows;
    private static int row;

    public static void main(String[] args) throws IOException {
        String readme = Files.readString(Path.of("README.md"));
        int from = readme.indexOf(BEGIN) + BEGIN.length();
        // Blanks only set the columns there.
        rows = readme.substring(from, readme.indexOf("```", from)).replaceAll(" +", " ").split("\n");
        told(line("d") + "t.make(true, 0, 1);", t.make(true, 0, 1));
        told(line("d/f") + "t.make(false, 300, 2);", t.make(false, 300, 2));
        told(line("d/f l") + "t.link(3);", t.link(3));
        told(line("l") + "t.node(true);", t.node(true));
        told(line("l/x") + "t.node(true);", t.node(true));
        told(line("/ -size +99") + "t.find(5);", t.find(5));
        told("t.count(2);", t.count(2));
        told("t.output(1);", "'" + t.output(1) + "'");
        told(line("/ -size") + "t.find(5);", t.find(5));
        told("t.place();", t.place());
        Probe.due("rows of the README's example", row, rows.length);
        readings();
        Probe.end();
    }

    /** The example's next row is this call, with this answer and perhaps more words behind it. */
    private static void told(String call, Object answer) {
        String shown = row < rows.length ? rows[row] : "";
        String start = call + " // " + answer;
        boolean same = shown.startsWith(start) && shown.substring(start.length()).matches("|[ ,].*");
        Probe.due("the README shows " + start + " and not " + shown, same, true);
        row++;
    }

    /** The README's own way to make a text THE LINE: how it is called there. */
    private static String line(String text) {
        t.erase();
        for (int i = 0; i < text.length(); i += 4) {
            int four = 0;
            for (int k = i; k < i + 4; k++) {
                four = four << 8 | (k < text.length() ? text.charAt(k) : 0);
            }
            t.type(four, 0, 0, 0, 0);
        }
        return "line(t, \"" + text + "\"); ";
    }

    /** What the README says of sentences that leave room. */
    private static void readings() {
        Probe p = new Probe();
        p.dir("e");
        p.file("f");
        p.bits("e", 3);
        Probe.due("-prune", p.find("/ -prune -o -type f") + p.tree.count(1), "/0");
        p.find("e -prune");
        Probe.due("-prune of a directory that may not be read", p.tree.count(1), 0);
        p.find("e");
        Probe.due("an empty directory that may not be read", p.tree.count(1), 1);
        p.file("b");
        p.file("d");
        p.file("-");
        Probe.due("[a-c-e]", p.find("/ -name [a-c-e]"), "/- /b /e");
        Probe.due("a tab parts no words", p.line("f\tf").tree.node(false), FindTree.NOENT);
        Probe.due("link without a second word", p.line("f").tree.link(0), FindTree.NOENT);
        Probe.due("tie without a second word", p.line("f").tree.tie(), FindTree.NOENT);
        p.find("e -x");
        String before = p.state();
        Probe.dueThrow("find(-1)", IllegalArgumentException.class, () -> p.tree.find(-1));
        Probe.due("what a find that throws leaves", p.state(), before);
        p.bits("/", 6);
        Probe.due("find where HERE may not be gone through", p.find("-print"), String.valueOf(FindTree.CLOSED));
    }
}
