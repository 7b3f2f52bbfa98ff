/** Promise 10, and what the terms say of GOING along a PATH. */
public final class NodeTest {
    public static void main(String[] args) {
        Probe.sentence("The number of the first word's node, FOLLOWED or not; or a fault.");
        steps();
        links();
        loops();
        longWays();
        Probe.end();
    }

    private static void steps() {
        Probe p = new Probe();
        p.dir("d");
        p.dir("d/e");
        p.file("d/e/f");
        Probe.due("no word", p.node(""), FindTree.NOENT);
        Probe.due("the root", p.node("/"), 0);
        Probe.due("many /", p.node("////"), 0);
        Probe.due("many / between", p.node("//d///e//f"), 3);
        Probe.due(".", p.node("./d/./e/./f"), 3);
        Probe.due("..", p.node("d/e/../../d/e"), 2);
        Probe.due("above the root", p.node("../../d"), 1);
        Probe.due("/ at the end of a directory", p.node("d/e/"), 2);
        Probe.due("/ at the end of a file", p.node("d/e/f//"), FindTree.NOTDIR);
        Probe.due(". behind a file", p.node("d/e/f/."), FindTree.NOTDIR);
        Probe.due(".. behind a file", p.node("d/e/f/.."), FindTree.NOTDIR);
        Probe.due("no such name", p.node("d/x/f"), FindTree.NOENT);
        Probe.due("what can be no name", p.node("d/Q*"), FindTree.NOENT);
        Probe.due("a part of a name", p.node("d/e/ff"), FindTree.NOENT);
        p.bits("d/e", 6);
        Probe.due("a closed one itself", p.node("d/e/"), 2);
        Probe.due("in a closed one", p.node("d/e/f"), FindTree.CLOSED);
        Probe.due("closed before no such name", p.node("d/e/x"), FindTree.CLOSED);
        Probe.due(". in a closed one", p.node("d/e/."), FindTree.CLOSED);
        Probe.due(".. in a closed one", p.node("d/e/.."), FindTree.CLOSED);
        p.bits("d/e", 1);
        Probe.due("going through is enough", p.node("d/e/f"), 3);
    }

    private static void links() {
        Probe p = new Probe();
        p.dir("d");
        p.file("d/f");
        p.link("f", "d/l");
        p.link("d/", "m");
        p.link("/d/f/", "n");
        p.link("/", "r");
        p.link("../d/./l", "d/q");
        Probe.due("not followed", p.node("d/l"), 3);
        Probe.due("followed, from the directory that has it", p.followed("d/l"), 2);
        Probe.due("a link to a directory", p.node("m"), 4);
        Probe.due("with /", p.node("m/"), 1);
        Probe.due("with steps", p.node("m/f"), 2);
        Probe.due("links in a row", p.followed("m/q"), 2);
        Probe.due("the last of them not followed", p.node("m/q"), 7);
        Probe.due("a text with / at its end is for directories", p.followed("n"), FindTree.NOTDIR);
        Probe.due("a link to a file with /", p.node("d/l/"), FindTree.NOTDIR);
        Probe.due("a link to a file with a step", p.node("d/l/x"), FindTree.NOTDIR);
        Probe.due("the root", p.followed("r"), 0);
        Probe.due("through the root", p.node("r/r//r/d/f"), 2);
        Probe.due(".. behind a link", p.node("m/.."), 0);
        p.go("d");
        Probe.due("from elsewhere", p.followed("/m/l"), 2);
    }

    private static void loops() {
        Probe p = new Probe();
        p.link("l", "l");
        Probe.due("itself", p.node("l"), 1);
        Probe.due("itself followed", p.followed("l"), FindTree.LOOP);
        Probe.due("itself with /", p.node("l/"), FindTree.LOOP);
        p.file("f");
        p.link("f", "a0");
        for (int i = 1; i < 9; i++) {
            p.link("a" + (i - 1), "a" + i);
        }
        Probe.due("eight links", p.followed("a7"), 2);
        Probe.due("nine links", p.followed("a8"), FindTree.LOOP);
        p.drop("l");
        p.link("/", "r");
        Probe.due("eight links and one not followed", p.node("r/r/r/r/r/r/r/r/a8"), 11);
        Probe.due("eight links, then one", p.followed("r/r/r/r/r/r/r/r/a0"), FindTree.LOOP);
        Probe.due("a fault before the ninth", p.followed("r/r/r/r/r/r/r/r/x/r"), FindTree.NOENT);
    }

    private static void longWays() {
        Probe p = new Probe();
        p.link("./".repeat(19) + "a1", "a0");
        for (int i = 1; i < 8; i++) {
            p.link("./".repeat(19) + "a" + (i + 1), "a" + i);
        }
        p.dir("a8");
        Probe.due("texts and a line of all their length", p.node("a0" + "/".repeat(98)), 9);
        Probe.due("steps behind them", p.node("a0" + "/.".repeat(49)), 9);
        p.dir("/a8/b");
        String path = "/a8/b";
        p.go(path);
        for (int i = 0; i < 38; i++) {
            p.dir("b");
            p.go("b");
        }
        Probe.due("a deep tree", p.tree.count(0), 48);
    }
}
