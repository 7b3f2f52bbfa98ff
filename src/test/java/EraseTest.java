/** Promise 3. */
public final class EraseTest {
    public static void main(String[] args) {
        Probe.sentence("THE LINE is empty: how many it had.");
        Probe p = new Probe();
        Probe.due("erase an empty line", p.tree.erase(), 0);
        p.type("ab c ");
        Probe.due("erase", p.tree.erase(), 5);
        Probe.due("erase again", p.tree.erase(), 0);
        Probe.due("no word is left", p.tree.make(false, 0, 0), FindTree.NOENT);
        p.type("f");
        Probe.due("the line begins anew", p.tree.make(false, 0, 0), 1);
        Probe.due("the line stays after a call", p.tree.node(false), 1);
        Probe.due("and has its length", p.tree.erase(), 1);
        for (int length = 0; length <= 100; length++) {
            p.type("a".repeat(length));
            Probe.due("erase " + length, p.tree.erase(), length);
            Probe.due("erase after " + length, p.tree.erase(), 0);
        }
        p.type(" ".repeat(100));
        Probe.due("erase blanks", p.tree.erase(), 100);
        p.type("f".repeat(100));
        Probe.dueThrow("a full line", IllegalStateException.class, () -> p.type("f"));
        p.tree.erase();
        Probe.due("a full line that was erased", p.type("f".repeat(100)), 100);
        p.find("/");
        p.tree.erase();
        Probe.due("THE OUTPUT is not erased", p.output(), "/\n/f\n");
        Probe.end();
    }
}
