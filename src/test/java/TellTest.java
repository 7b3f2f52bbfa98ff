/** Promise 15. */
public final class TellTest {
    public static void main(String[] args) {
        Probe.sentence("what = 0 its kind (0 directory, 1 file, 2 link), 1 SIZE, 2 DAY, 3 TIES, 4 how many NAMES or"
            + " characters of its TEXT it has (0 of a file), 5 BITS (0 of others); -1 for another what."
            + " IndexOutOfBounds: there is no such node.");
        Probe p = new Probe();
        p.line("d").tree.make(true, 3, 4);
        p.file("d/f", 5, 6);
        p.tie("d/f", "d/g");
        p.line("d/f l").tree.link(7);
        p.bits("d", 5);
        int[][] due = {{0, 0, 0, 1, 2, 7}, {0, 0, 4, 1, 2, 5}, {1, 5, 6, 2, 0, 0}, {2, 3, 7, 1, 3, 0}};
        for (int node = 0; node < due.length; node++) {
            for (int what = 0; what < 6; what++) {
                Probe.due("tell(" + node + ", " + what + ")", p.tree.tell(node, what), due[node][what]);
            }
            for (int what : new int[] {-1, 6, Integer.MIN_VALUE, Integer.MAX_VALUE}) {
                Probe.due("tell(" + node + ", " + what + ")", p.tree.tell(node, what), -1);
            }
        }
        for (int node : new int[] {-1, 4, 47, 48, Integer.MIN_VALUE, Integer.MAX_VALUE}) {
            Probe.dueThrow("tell(" + node + ", 0)", IndexOutOfBoundsException.class, () -> p.tree.tell(node, 0));
            Probe.dueThrow("tell(" + node + ", 9)", IndexOutOfBoundsException.class, () -> p.tree.tell(node, 9));
        }
        p.drop("l");
        Probe.dueThrow("of one that is gone", IndexOutOfBoundsException.class, () -> p.tree.tell(3, 0));
        Probe.due("the root has a name less", p.tree.tell(0, 4), 1);
        Probe.end();
    }
}
