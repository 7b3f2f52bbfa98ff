/** Promise 14. */
public final class OutputTest {
    public static void main(String[] args) {
        Probe p = new Probe();
        p.file("f");
        p.line("").tree.find(0);
        Probe.due("0", p.tree.output(0), '.');
        Probe.due("1", p.tree.output(1), (char) 10);
        Probe.due("4", p.tree.output(4), 'f');
        Probe.due("5", p.tree.output(5), (char) 10);
        int[] none = {6, -1, 1499, 1500, Integer.MAX_VALUE, Integer.MIN_VALUE};
        for (int k : none) {
            Probe.due(String.valueOf(k), p.tree.output(k), ' ');
        }
        p.real("/");
        Probe.due("after real", p.tree.output(0), '/');
        Probe.due("behind it", p.tree.output(1), ' ');
        p.find("-x");
        Probe.due("after SYNTAX", p.tree.output(0), ' ');
        Probe.end();
    }
}
