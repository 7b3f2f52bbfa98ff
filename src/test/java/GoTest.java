/** Promise 9. */
public final class GoTest {
    public static void main(String[] args) {
        Probe p = new Probe();
        p.dir("d");
        p.dir("d/e");
        p.file("d/f");
        p.link("d/e", "l");
        Probe.due("a directory", p.go("d"), 1);
        Probe.due("from there", p.node("e"), 2);
        Probe.due("above", p.go(".."), 0);
        Probe.due("above the root", p.go("../.."), 0);
        Probe.due("through a link", p.go("l"), 2);
        Probe.due("HERE", p.real("."), "/d/e");
        Probe.due("a file", p.go("/d/f"), FindTree.NOTDIR);
        Probe.due("no such node", p.go("x"), FindTree.NOENT);
        Probe.due("no word", p.go(""), FindTree.NOENT);
        p.bits("/d", 6);
        Probe.due("it may not be gone through", p.go("/d"), FindTree.CLOSED);
        Probe.due("on the way", p.go("/d/e"), FindTree.CLOSED);
        Probe.due("HERE stays", p.real("."), "/d/e");
        Probe.due("from inside", p.go(".."), FindTree.CLOSED);
        p.bits("/d", 1);
        Probe.due("more is not needed", p.go(".."), 1);
        Probe.end();
    }
}
