/** Promise 8. */
public final class BitsTest {
    public static void main(String[] args) {
        Probe p = new Probe();
        p.dir("d");
        p.file("d/f");
        p.link("d", "l");
        p.link("d/f", "m");
        Probe.due("at first", p.bits("d", 0), 7);
        Probe.due("through a link", p.bits("l", 5), 0);
        Probe.due("tell", p.tree.tell(1, 5), 5);
        Probe.due("again", p.bits("d/", 7), 5);
        Probe.due("a file", p.bits("d/f", 1), FindTree.KIND);
        Probe.due("a link to a file", p.bits("m", 1), FindTree.KIND);
        Probe.due("no such node", p.bits("x", 1), FindTree.NOENT);
        Probe.due("no word", p.bits("", 1), FindTree.NOENT);
        Probe.due("a file with /", p.bits("d/f/", 1), FindTree.NOTDIR);
        p.line("");
        for (int bits : new int[] {-1, 8, Integer.MIN_VALUE, Integer.MAX_VALUE}) {
            Probe.dueThrow("bits " + bits, IllegalArgumentException.class, () -> p.tree.bits(bits));
        }
        Probe.due("the root's", p.bits("/", 0), 7);
        Probe.due("the root is closed", p.node("d"), FindTree.CLOSED);
        Probe.due("for . too", p.node("."), FindTree.CLOSED);
        Probe.due("by nothing it can be opened", p.bits("/", 7), 0);
        Probe.end();
    }
}
