/** Promise 1. */
public final class NewObjectTest {
    public static void main(String[] args) {
        FindTree x = new FindTree();
        int[] root = {0, 0, 0, 1, 0, 7};
        for (int what = 0; what < root.length; what++) {
            Probe.due("tell(0, " + what + ")", x.tell(0, what), root[what]);
        }
        Probe.due("nodes", x.count(0), 1);
        Probe.due("complaints", x.count(1), 0);
        Probe.due("output's length", x.count(2), 0);
        Probe.due("output(0)", x.output(0), ' ');
        Probe.due("place()", x.place(), -1);
        Probe.due("erase()", x.erase(), 0);

        Probe p = new Probe();
        Probe.due("HERE is the root", p.real("."), "/");
        p.file("f");
        Probe.due("another object has its own nodes", new FindTree().count(0), 1);
        Probe.end();
    }
}
