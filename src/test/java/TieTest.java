/** Promise 6. */
public final class TieTest {
    public static void main(String[] args) {
        Probe p = new Probe();
        p.dir("d");
        p.file("f", 5, 6);
        p.link("f", "l");
        Probe.due("a file", p.tie("f", "d/g/"), 2);
        Probe.due("its ties", p.tree.tell(2, 3), 2);
        Probe.due("its number", p.node("d/g"), 2);
        Probe.due("a link, not followed", p.tie("l", "d/m"), 3);
        Probe.due("the link's ties", p.tree.tell(3, 3), 2);
        Probe.due("a link's text counts from where it is", p.followed("d/m"), FindTree.NOENT);
        p.file("d/f");
        Probe.due("a link's text counts from where it is", p.followed("d/m"), 4);
        Probe.due("and there too", p.followed("l"), 2);
        Probe.due("nodes", p.tree.count(0), 5);

        Probe.due("no word", p.line("").tree.tie(), FindTree.NOENT);
        Probe.due("no second word", p.line("f").tree.tie(), FindTree.NOENT);
        Probe.due("no such node", p.tie("x", "Q"), FindTree.NOENT);
        Probe.due("a directory, before the second word", p.tie("d", "Q"), FindTree.KIND);
        Probe.due("a directory without a second word", p.line("d").tree.tie(), FindTree.KIND);
        Probe.due("the root", p.tie("/", "r"), FindTree.KIND);
        p.link("d", "ld");
        Probe.due("a link to a directory with /", p.tie("ld/", "r"), FindTree.KIND);
        Probe.due("a link to a file with /", p.tie("l/", "r"), FindTree.NOTDIR);
        Probe.due("a bad name", p.tie("f", "Q"), FindTree.BADNAME);
        Probe.due("there already", p.tie("f", "f"), FindTree.EXISTS);
        Probe.due("in a file", p.tie("f", "f/x"), FindTree.NOTDIR);
        p.bits("d", 5);
        Probe.due("in a closed one", p.tie("f", "d/x"), FindTree.CLOSED);
        Probe.due("its ties stay", p.tree.tell(2, 3), 2);
        for (int i = p.tree.tell(0, 4); i < 12; i++) {
            p.tie("f", "t" + i);
        }
        Probe.due("in a full one", p.tie("f", "x"), FindTree.FULL);
        Probe.end();
    }
}
