/** Promise 9. */
public final class GoTest {
    public static void main(String[] args) {
        ordinary();
        notDirectory();
        closed();
        Probe.end();
    }

    private static void ordinary() {
        Probe.sentence("HERE is the first word's node (FOLLOWED): its number");
        Probe p = new Probe();
        p.dir("d");
        p.dir("d/e");
        p.link("d/e", "l");
        Probe.due("a directory", p.go("d"), 1);
        Probe.due("from there", p.node("e"), 2);
        Probe.due("HERE itself", p.go("."), 1);
        Probe.due("above", p.go(".."), 0);
        Probe.due("above the root", p.go("../.."), 0);
        Probe.due("through a link", p.go("l"), 2);
        Probe.due("HERE", p.real("."), "/d/e");
        Probe.due("the root", p.go("/"), 0);
        Probe.due("the root is HERE", p.here(), 0);
        Probe.due("with /", p.go("d/e/"), 2);
        Probe.due("above where the link leads", p.go("/l/.."), 1);
    }

    private static void notDirectory() {
        Probe.sentence("or a fault: NOTDIR");
        Probe p = new Probe();
        p.dir("d");
        p.file("d/f");
        p.link("d/f", "l");
        p.link("o", "o");
        p.link("x", "n");
        p.go("d");
        Probe.due("a file", p.go("/d/f"), FindTree.NOTDIR);
        Probe.due("a file from HERE", p.go("f"), FindTree.NOTDIR);
        Probe.due("a link to a file", p.go("/l"), FindTree.NOTDIR);
        Probe.due("no such node", p.go("x"), FindTree.NOENT);
        Probe.due("a link to nothing", p.go("/n"), FindTree.NOENT);
        Probe.due("a ring", p.go("/o"), FindTree.LOOP);
        Probe.due("no word", p.go(""), FindTree.NOENT);
        Probe.due("HERE stays", p.here(), 1);
    }

    private static void closed() {
        Probe.sentence("CLOSED if it may not be gone through");
        for (int bits = 0; bits < 8; bits++) {
            Probe p = new Probe();
            p.dir("d");
            p.link("d", "l");
            p.bits("d", bits);
            boolean open = (bits & 1) == 1;
            Probe.due("with bits " + bits, p.go("d"), open ? 1 : FindTree.CLOSED);
            Probe.due("HERE with bits " + bits, p.here(), open ? 1 : 0);
            p.go("/");
            Probe.due("by a link with bits " + bits, p.go("l"), open ? 1 : FindTree.CLOSED);
        }
        Probe p = new Probe();
        p.dir("d");
        p.dir("d/e");
        p.go("d/e");
        p.bits("/d", 6);
        Probe.due("on the way", p.go("/d/e"), FindTree.CLOSED);
        Probe.due("from inside", p.go(".."), FindTree.CLOSED);
        Probe.due("HERE stays", p.here(), 2);
        p.bits("/d", 1);
        Probe.due("more is not needed", p.go(".."), 1);
        p.bits("/", 0);
        Probe.due("the root", p.go("/"), FindTree.CLOSED);
    }
}
