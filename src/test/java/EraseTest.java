/** Promise 3. */
public final class EraseTest {
    public static void main(String[] args) {
        Probe p = new Probe();
        Probe.due("erase an empty line", p.tree.erase(), 0);
        p.type("ab c ");
        Probe.due("erase", p.tree.erase(), 5);
        Probe.due("erase again", p.tree.erase(), 0);
        Probe.due("no word is left", p.tree.make(false, 0, 0), FindTree.NOENT);
        p.type("f");
        Probe.due("the line begins anew", p.tree.make(false, 0, 0), 1);
        Probe.due("the line stays after a call", p.tree.node(false), 1);
        Probe.due("and has its length", p.tree.erase(), 1);
        Probe.end();
    }
}
