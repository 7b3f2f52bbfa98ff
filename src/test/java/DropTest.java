/** Promise 7. */
public final class DropTest {
    public static void main(String[] args) {
        ties();
        ways();
        kindByNoName();
        kindOfHere();
        closed();
        notEmpty();
        faultsOfTheWay();
        Probe.end();
    }

    private static void ties() {
        Probe.sentence("The first word's node (not FOLLOWED) loses the TIE by which one came to it: its number.");
        Probe p = new Probe();
        p.file("f");
        p.tie("f", "g");
        p.link("g", "l");
        Probe.due("one of two ties", p.drop("f"), 1);
        Probe.due("the name is gone", p.node("f"), FindTree.NOENT);
        Probe.due("the other is left", p.node("g"), 1);
        Probe.due("ties", p.tree.tell(1, 3), 1);
        Probe.due("the link, not followed", p.drop("l"), 2);
        Probe.due("what it led to stays", p.node("g"), 1);
        Probe.due("the last tie", p.drop("g"), 1);
        Probe.due("nodes", p.tree.count(0), 1);
        Probe.dueThrow("it is gone", IndexOutOfBoundsException.class, () -> p.tree.tell(1, 0));
        Probe.due("again", p.drop("g"), FindTree.NOENT);
        Probe.due("no word", p.drop(""), FindTree.NOENT);
        p.file("b");
        p.tie("b", "a");
        p.tie("b", "c");
        Probe.due("the first of three names", p.drop("a"), 1);
        Probe.due("the others stay", p.find("/"), "/ /b /c");
        Probe.due("the last of two names", p.drop("c"), 1);
        Probe.due("the other stays", p.find("/"), "/ /b");
    }

    private static void ways() {
        Probe p = new Probe();
        p.dir("d");
        p.dir("d/e");
        p.link("d/e", "l");
        Probe.due("by the name behind a link", p.drop("l/"), 2);
        Probe.due("the link stays", p.node("l"), 3);
        Probe.due("what it led to is gone", p.node("d/e"), FindTree.NOENT);
        p.file("f");
        Probe.due("a file with /", p.drop("f/"), FindTree.NOTDIR);
        Probe.due("a roundabout way", p.drop("./d/../f"), 2);
        p.dir("d/e");
        Probe.due("a directory with / at the end", p.drop("d/e//"), 2);
        p.file("d/f");
        p.link("d", "m");
        Probe.due("a link on the way", p.drop("m/f"), 2);
        Probe.due("names of d", p.tree.tell(1, 4), 0);
    }

    private static void kindByNoName() {
        Probe.sentence("KIND if one came to it by . or .., or by nothing");
        Probe p = new Probe();
        p.dir("d");
        p.dir("d/e");
        p.link("/", "r");
        p.link("d/.", "q");
        p.link("d/e/..", "s");
        p.link("d/e/", "t");
        for (String path : new String[] {"/", "//", ".", "..", "./", "../", "d/.", "d/..", "d/e/.", "d/e/..", "d/e/./", "r/",
            "r//", "q/", "s/", "t/..", "t/.", "/."}) {
            Probe.due("drop " + path, p.drop(path), FindTree.KIND);
        }
        p.go("d/e");
        Probe.due("the root from below", p.drop("../.."), FindTree.KIND);
        Probe.due("the directory above", p.drop(".."), FindTree.KIND);
        p.go("/");
        p.bits("d", 5);
        Probe.due("by . before CLOSED", p.drop("d/e/."), FindTree.KIND);
        Probe.due("by .. before CLOSED", p.drop("d/e/.."), FindTree.KIND);
        p.bits("/", 5);
        Probe.due("by .. before CLOSED, in the root", p.drop("d/e/.."), FindTree.KIND);
        p.bits("/", 7);
        p.bits("d", 7);
        Probe.due("by . before NOTEMPTY", p.drop("d/."), FindTree.KIND);
        Probe.due("nothing was dropped", p.tree.count(0), 7);
        Probe.due("by its name behind a link", p.drop("t/"), 2);
    }

    private static void kindOfHere() {
        Probe.sentence("or it is HERE");
        Probe p = new Probe();
        p.dir("d");
        p.dir("d/e");
        p.link("/d/e", "l");
        p.go("d/e");
        for (String path : new String[] {"/d/e", "/d/e/", "../e", "/l/", "."}) {
            Probe.due("drop " + path, p.drop(path), FindTree.KIND);
        }
        Probe.due("a link to HERE", p.drop("/l"), 3);
        p.bits("/d", 5);
        Probe.due("before CLOSED", p.drop("/d/e"), FindTree.KIND);
        p.bits("/d", 7);
        p.file("f");
        Probe.due("before NOTEMPTY", p.drop("/d/e"), FindTree.KIND);
        Probe.due("the directory of HERE has a NAME", p.drop("/d"), FindTree.NOTEMPTY);
        p.drop("f");
        p.go("/");
        Probe.due("no longer HERE", p.drop("d/e"), 2);
        p.dir("e");
        p.go("e");
        p.bits("/e", 0);
        Probe.due("HERE that is closed", p.drop("/e"), FindTree.KIND);
    }

    private static void closed() {
        Probe.sentence("CLOSED if its directory may not be changed");
        for (int bits = 0; bits < 8; bits++) {
            Probe p = new Probe();
            p.dir("d");
            p.dir("d/e");
            p.file("d/f");
            p.link("f", "d/l");
            p.bits("d/e", bits);
            Probe.due("its own bits don't matter: " + bits, p.drop("d/e"), 2);
            p.dir("d/e");
            p.bits("d", bits);
            boolean open = (bits & 3) == 3;
            Probe.due("a directory with " + bits, p.drop("d/e"), open ? 2 : FindTree.CLOSED);
            Probe.due("a file with " + bits, p.drop("d/f"), open ? 3 : FindTree.CLOSED);
            Probe.due("a link with " + bits, p.drop("d/l"), open ? 4 : FindTree.CLOSED);
        }
        Probe p = new Probe();
        p.dir("d");
        p.file("d/f");
        p.bits("/", 5);
        Probe.due("in the root", p.drop("d"), FindTree.CLOSED);
        Probe.due("below it", p.drop("d/f"), 2);
        Probe q = new Probe();
        q.dir("d");
        q.dir("d/e");
        q.file("d/e/f");
        q.bits("d", 5);
        Probe.due("before NOTEMPTY", q.drop("d/e"), FindTree.CLOSED);
    }

    private static void notEmpty() {
        Probe.sentence("NOTEMPTY if it is a directory with NAMES");
        Probe p = new Probe();
        p.dir("d");
        p.file("d/f");
        Probe.due("with a file", p.drop("d"), FindTree.NOTEMPTY);
        p.drop("d/f");
        p.link("x", "d/l");
        Probe.due("with a link", p.drop("d"), FindTree.NOTEMPTY);
        p.drop("d/l");
        p.dir("d/e");
        Probe.due("with a directory", p.drop("d"), FindTree.NOTEMPTY);
        p.link("/d", "l");
        Probe.due("by a link", p.drop("l/"), FindTree.NOTEMPTY);
        p.bits("d", 0);
        Probe.due("closed itself", p.drop("d"), FindTree.NOTEMPTY);
        p.bits("d", 7);
        p.drop("d/e");
        Probe.due("without NAMES", p.drop("d"), 1);
    }

    private static void faultsOfTheWay() {
        Probe.sentence("The first that is wrong is the fault.");
        Probe p = new Probe();
        p.dir("d");
        p.file("d/f");
        p.link("o", "o");
        p.file("f");
        Probe.due("no such node", p.drop("x"), FindTree.NOENT);
        Probe.due("behind a file", p.drop("f/x"), FindTree.NOTDIR);
        Probe.due("a ring with /", p.drop("o/"), FindTree.LOOP);
        Probe.due("a ring, not followed", p.drop("o"), 3);
        p.bits("d", 6);
        Probe.due("on the way", p.drop("d/f"), FindTree.CLOSED);
        Probe.due("by . on the way", p.drop("d/."), FindTree.CLOSED);
    }
}
