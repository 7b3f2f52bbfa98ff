/** Promise 16. */
public final class CountTest {
    public static void main(String[] args) {
        Probe.sentence("How many: what = 0 nodes, 1 COMPLAINTS of the last find, 2 characters of THE OUTPUT;"
            + " -1 for another what.");
        Probe p = new Probe();
        p.dir("d");
        p.dir("e");
        p.file("e/f");
        p.tie("e/f", "e/g");
        Probe.due("nodes", p.tree.count(0), 4);
        p.bits("d", 6);
        p.bits("e", 3);
        p.find("");
        Probe.due("complaints", p.tree.count(1), 2);
        Probe.due("characters", p.tree.count(2), 10);
        p.real("d");
        Probe.due("complaints stay after real", p.tree.count(1), 2);
        Probe.due("characters", p.tree.count(2), 2);
        p.line("");
        Probe.dueThrow("a find without bounds", IllegalArgumentException.class, () -> p.tree.find(1000000));
        Probe.due("complaints stay after it", p.tree.count(1), 2);
        Probe.due("characters stay after it", p.tree.count(2), 2);
        for (String line : new String[] {"x", "-x", ". -newer x"}) {
            p.find("");
            p.find(line);
            Probe.due("no complaints after find " + line, p.tree.count(1), 0);
            Probe.due("no characters after find " + line, p.tree.count(2), 0);
        }
        for (int what : new int[] {-1, 3, Integer.MIN_VALUE, Integer.MAX_VALUE}) {
            Probe.due("count(" + what + ")", p.tree.count(what), -1);
        }
        Probe.end();
    }
}
