/** Promise 5. */
public final class LinkTest {
    public static void main(String[] args) {
        ordinary();
        longFirst();
        faults();
        bounds();
        Probe.end();
    }

    private static void ordinary() {
        Probe.sentence("A link at the NEW PLACE that is the second word, the first word being its TEXT"
            + " (LONG, before all others; SIZE is its length): its number, or a fault.");
        Probe p = new Probe();
        Probe.due("a link to nothing", p.line("No(where) l/").tree.link(9), 1);
        int[] due = {2, 9, 9, 1, 9, 0};
        for (int what = 0; what < due.length; what++) {
            Probe.due("tell(1, " + what + ")", p.tree.tell(1, what), due[what]);
        }
        Probe.due("it leads nowhere", p.followed("l"), FindTree.NOENT);
        Probe.due("a text of one character", p.link("x", "k"), 2);
        Probe.due("its size", p.tree.tell(2, 1), 1);
        String forty = "./".repeat(19) + "ab";
        Probe.due("a text of 40", p.link(forty, "m"), 3);
        Probe.due("its size", p.tree.tell(3, 1), 40);
        Probe.due("its characters", p.tree.tell(3, 4), 40);
        Probe.due("to what", p.file("ab"), 4);
        Probe.due("it is followed", p.followed("m"), 4);
        Probe.due("a third word is nothing", p.link("ab", "o p"), 5);
        Probe.due("nodes", p.tree.count(0), 6);
        Probe.due("its TEXT stays when the LINE is another", p.followed("o"), 4);
    }

    private static void longFirst() {
        Probe p = new Probe();
        p.dir("d");
        p.file("f");
        p.link("o", "o");
        p.dir("c");
        p.bits("c", 5);
        p.dir("full");
        for (int i = 0; i < 12; i++) {
            p.tie("f", "full/" + i);
        }
        String[] places = {"", "Q", "..", "/", "x/y", "f/y", "o/y", "c/y", "f", "full/y", "y"};
        int[] faults = {FindTree.NOENT, FindTree.BADNAME, FindTree.BADNAME, FindTree.BADNAME, FindTree.NOENT,
            FindTree.NOTDIR, FindTree.LOOP, FindTree.CLOSED, FindTree.EXISTS, FindTree.FULL, 6};
        for (int i = 0; i < places.length; i++) {
            Probe.due("a text of 41 at " + places[i], p.link("a".repeat(41), places[i]), FindTree.LONG);
            Probe.due("a text of 80 at " + places[i], p.link("a".repeat(80), places[i]), FindTree.LONG);
            Probe.due("a text of 40 at " + places[i], p.link("a".repeat(40), places[i]), faults[i]);
        }
        Probe.due("a word of 100", p.line("a".repeat(100)).tree.link(0), FindTree.LONG);
        for (int i = p.tree.count(0); i < 48; i++) {
            p.dir(i < 17 ? "d/n" + i : "d/n" + (7 + i % 10) + "/m" + i);
        }
        Probe.due("nodes", p.tree.count(0), 48);
        Probe.due("before 48 nodes", p.link("a".repeat(41), "z"), FindTree.LONG);
        Probe.due("48 nodes", p.link("a".repeat(40), "z"), FindTree.FULL);
    }

    private static void faults() {
        Probe p = new Probe();
        p.file("ab");
        Probe.due("no second word", p.line("a").tree.link(0), FindTree.NOENT);
        Probe.due("no word", p.line("").tree.link(0), FindTree.NOENT);
        Probe.due("there already", p.link("a", "ab"), FindTree.EXISTS);
        Probe.due("a bad name", p.link("a", ".."), FindTree.BADNAME);
        Probe.due("in a file", p.link("a", "ab/c"), FindTree.NOTDIR);
        Probe.due("a link of its own name", p.link("n", "n"), 2);
        Probe.due("once more", p.link("n", "n"), FindTree.EXISTS);
    }

    private static void bounds() {
        Probe.sentence("IllegalArgument, as with make.");
        Probe p = new Probe();
        for (String line : new String[] {"a q", "", "a", "a".repeat(41), "a Q", "a x/y"}) {
            p.line(line);
            for (int day : new int[] {-1, 1000000, Integer.MIN_VALUE, Integer.MAX_VALUE}) {
                Probe.dueThrow("link " + day + " of " + line, IllegalArgumentException.class, () -> p.tree.link(day));
            }
        }
        Probe.due("nothing was made", p.tree.count(0), 1);
        Probe.due("the least", p.line("a q").tree.link(0), 1);
        Probe.due("the greatest", p.line("a r").tree.link(999999), 2);
        Probe.due("the least day", p.tree.tell(1, 2), 0);
        Probe.due("the greatest day", p.tree.tell(2, 2), 999999);
    }
}
