/** Promise 1. */
public final class NewObjectTest {
    public static void main(String[] args) {
        Probe.sentence("The root alone (SIZE 0, DAY 0, one TIE), an empty LINE and OUTPUT.");
        FindTree x = new FindTree();
        int[] root = {0, 0, 0, 1, 0, 7};
        for (int what = 0; what < root.length; what++) {
            Probe.due("tell(0, " + what + ")", x.tell(0, what), root[what]);
        }
        for (int node = 1; node < 48; node++) {
            int number = node;
            Probe.dueThrow("tell(" + node + ", 0)", IndexOutOfBoundsException.class, () -> x.tell(number, 0));
        }
        Probe.due("nodes", x.count(0), 1);
        Probe.due("complaints", x.count(1), 0);
        Probe.due("output's length", x.count(2), 0);
        for (int k = -1; k <= 1500; k++) {
            Probe.due("output(" + k + ")", x.output(k), ' ');
        }
        Probe.due("place()", x.place(), -1);
        Probe.due("erase()", x.erase(), 0);
        emptyLine();
        others();
        Probe.end();
    }

    private static void emptyLine() {
        FindTree x = new FindTree();
        Probe.due("node", x.node(true), FindTree.NOENT);
        Probe.due("type nothing", x.type(0, 0, 0, 0, 0), 0);
        Probe.due("find", x.find(0), 1);
        Probe.due("find's characters", x.count(2), 2);
        Probe.due("find's path", x.output(0), '.');
        Probe p = new Probe();
        Probe.due("HERE is the root", p.real("."), "/");
        Probe.due("HERE is the root", p.node("."), 0);
    }

    private static void others() {
        Probe p = new Probe();
        p.file("f");
        p.find("f -x");
        FindTree other = new FindTree();
        Probe.due("another object has its own nodes", other.count(0), 1);
        Probe.due("its own LINE", other.erase(), 0);
        Probe.due("its own place", other.place(), -1);
        Probe.due("the first keeps its own", p.tree.place(), 1);
    }
}
