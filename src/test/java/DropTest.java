/** Promise 7. */
public final class DropTest {
    public static void main(String[] args) {
        ties();
        directories();
        ways();
        Probe.end();
    }

    private static void ties() {
        Probe p = new Probe();
        p.file("f");
        p.tie("f", "g");
        p.link("g", "l");
        Probe.due("one of two ties", p.drop("f"), 1);
        Probe.due("the name is gone", p.node("f"), FindTree.NOENT);
        Probe.due("the other is left", p.node("g"), 1);
        Probe.due("ties", p.tree.tell(1, 3), 1);
        Probe.due("the link, not followed", p.drop("l"), 2);
        Probe.due("the last tie", p.drop("g"), 1);
        Probe.due("nodes", p.tree.count(0), 1);
        Probe.dueThrow("it is gone", IndexOutOfBoundsException.class, () -> p.tree.tell(1, 0));
        Probe.due("again", p.drop("g"), FindTree.NOENT);
        Probe.due("no word", p.drop(""), FindTree.NOENT);
    }

    private static void directories() {
        Probe p = new Probe();
        p.dir("d");
        p.dir("d/e");
        p.file("d/e/f");
        Probe.due("with names", p.drop("d/e"), FindTree.NOTEMPTY);
        p.bits("d", 5);
        Probe.due("closed before not empty", p.drop("d/e"), FindTree.CLOSED);
        p.bits("d", 6);
        Probe.due("on the way", p.drop("d/e"), FindTree.CLOSED);
        p.bits("d", 3);
        p.bits("d/e", 3);
        p.drop("d/e/f");
        p.go("d/e");
        Probe.due("HERE", p.drop("/d/e"), FindTree.KIND);
        p.bits("/d", 5);
        Probe.due("HERE before closed", p.drop("/d/e"), FindTree.KIND);
        p.bits("/d", 7);
        p.go("/");
        p.bits("d/e", 0);
        Probe.due("a closed one can be dropped", p.drop("d/e/"), 2);
        Probe.due("the root by nothing", p.drop("/"), FindTree.KIND);
        Probe.due("by .", p.drop("d/."), FindTree.KIND);
        Probe.due("by ..", p.drop("d/.."), FindTree.KIND);
        p.dir("d/e");
        Probe.due("by .. before not empty", p.drop("d/e/.."), FindTree.KIND);
    }

    private static void ways() {
        Probe p = new Probe();
        p.dir("d");
        p.dir("d/e");
        p.link("d/e", "l");
        p.link("/", "r");
        p.link("d/.", "q");
        Probe.due("a link to the root", p.drop("r/"), FindTree.KIND);
        Probe.due("a link whose text ends in .", p.drop("q/"), FindTree.KIND);
        Probe.due("by the name behind a link", p.drop("l/"), 2);
        Probe.due("the link stays", p.node("l"), 3);
        Probe.due("what it led to is gone", p.node("d/e"), FindTree.NOENT);
        p.file("f");
        Probe.due("a file with /", p.drop("f/"), FindTree.NOTDIR);
        Probe.due("a roundabout way", p.drop("./d/../f"), 2);
    }
}
