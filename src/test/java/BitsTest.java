/** Promise 8. */
public final class BitsTest {
    public static void main(String[] args) {
        whatTheyWere();
        faults();
        bounds();
        closedRoot();
        Probe.end();
    }

    private static void whatTheyWere() {
        Probe.sentence("The BITS of the first word's node (FOLLOWED): what they were");
        Probe p = new Probe();
        p.dir("d");
        p.link("d", "l");
        p.link("l", "m");
        Probe.due("at first", p.bits("d", 0), 7);
        Probe.due("through a link", p.bits("l", 5), 0);
        Probe.due("through two links", p.bits("m", 4), 5);
        Probe.due("tell", p.tree.tell(1, 5), 4);
        Probe.due("with /", p.bits("d/", 7), 4);
        for (int from = 0; from < 8; from++) {
            for (int to = 0; to < 8; to++) {
                p.bits("d", from);
                Probe.due(from + " to " + to, p.bits("d", to), from);
                Probe.due("tell after " + from + " to " + to, p.tree.tell(1, 5), to);
            }
        }
        Probe.due("the root's stay", p.tree.tell(0, 5), 7);
    }

    private static void faults() {
        Probe.sentence("or a fault, KIND if it is no directory");
        Probe p = new Probe();
        p.dir("d");
        p.file("d/f");
        p.link("d/f", "m");
        p.link("o", "o");
        p.link("x", "n");
        Probe.due("a file", p.bits("d/f", 1), FindTree.KIND);
        Probe.due("a link to a file", p.bits("m", 1), FindTree.KIND);
        Probe.due("no such node", p.bits("x", 1), FindTree.NOENT);
        Probe.due("a link to nothing", p.bits("n", 1), FindTree.NOENT);
        Probe.due("no word", p.bits("", 1), FindTree.NOENT);
        Probe.due("a file with /", p.bits("d/f/", 1), FindTree.NOTDIR);
        Probe.due("a ring", p.bits("o", 1), FindTree.LOOP);
        p.bits("d", 6);
        Probe.due("on a closed way", p.bits("d/f", 1), FindTree.CLOSED);
        Probe.due("by . in a closed one", p.bits("d/.", 7), FindTree.CLOSED);
        Probe.due("a file's bits", p.tree.tell(2, 5), 0);
    }

    private static void bounds() {
        Probe.sentence("IllegalArgument: they are not 0 .. 7.");
        Probe p = new Probe();
        p.dir("d");
        for (String line : new String[] {"", "d", "x"}) {
            p.line(line);
            for (int bits : new int[] {-1, 8, 9, 15, -8, 256, 263, Integer.MIN_VALUE, Integer.MAX_VALUE}) {
                Probe.dueThrow("bits " + bits + " of " + line, IllegalArgumentException.class, () -> p.tree.bits(bits));
            }
        }
        Probe.due("nothing was changed", p.tree.tell(1, 5), 7);
        Probe.due("the least", p.bits("d", 0), 7);
        Probe.due("the greatest", p.bits("d", 7), 0);
    }

    private static void closedRoot() {
        Probe p = new Probe();
        p.dir("d");
        Probe.due("the root's", p.bits("/", 0), 7);
        Probe.due("the root is closed", p.node("d"), FindTree.CLOSED);
        Probe.due("for . too", p.node("."), FindTree.CLOSED);
        Probe.due("by nothing it can be opened", p.bits("/", 7), 0);
    }
}
