/** Promise 14. */
public final class OutputTest {
    public static void main(String[] args) {
        Probe.sentence("Character k of THE OUTPUT; a space if there is none such.");
        Probe p = new Probe();
        p.file("f");
        p.line("").tree.find(0);
        Probe.due("0", p.tree.output(0), '.');
        Probe.due("1", p.tree.output(1), (char) 10);
        Probe.due("4", p.tree.output(4), 'f');
        Probe.due("5", p.tree.output(5), (char) 10);
        int[] none = {6, -1, 1499, 1500, Integer.MAX_VALUE, Integer.MIN_VALUE};
        for (int k : none) {
            Probe.due(String.valueOf(k), p.tree.output(k), ' ');
        }
        p.real("/");
        Probe.due("after real", p.tree.output(0), '/');
        Probe.due("behind it", p.tree.output(1), ' ');
        p.find("-x");
        Probe.due("after SYNTAX", p.tree.output(0), ' ');
        fullOutput();
        Probe.end();
    }

    /** 1500 characters, and behind them none. */
    private static void fullOutput() {
        Probe p = Probe.wide(8);
        String path = "./".repeat(49) + ".";
        StringBuilder all = new StringBuilder(path).append('\n');
        for (char c = 'a'; c <= 'k'; c++) {
            all.append(path).append("/bbbbb").append(c).append('\n');
        }
        all.append(path).append("/zzzzzz\n").append(path).append("/zzzzzz/cccccccc\n");
        p.line(path).tree.find(0);
        Probe.due("characters", p.tree.count(2), 1500);
        for (int k = -100; k < 1600; k++) {
            Probe.due("character " + k, p.tree.output(k), k >= 0 && k < 1500 ? all.charAt(k) : ' ');
        }
        p.find("bbbbba");
        for (int k = 7; k < 1600; k++) {
            Probe.due("character " + k + " of a shorter one", p.tree.output(k), ' ');
        }
    }
}
