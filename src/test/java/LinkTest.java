/** Promise 5. */
public final class LinkTest {
    public static void main(String[] args) {
        Probe p = new Probe();
        Probe.due("a link to nothing", p.line("No(where) l/").tree.link(9), 1);
        Probe.due("its kind", p.tree.tell(1, 0), 2);
        Probe.due("its size", p.tree.tell(1, 1), 9);
        Probe.due("its day", p.tree.tell(1, 2), 9);
        Probe.due("its ties", p.tree.tell(1, 3), 1);
        Probe.due("its text's length", p.tree.tell(1, 4), 9);
        Probe.due("its bits", p.tree.tell(1, 5), 0);
        Probe.due("it leads nowhere", p.followed("l"), FindTree.NOENT);

        String forty = "./".repeat(19) + "ab";
        Probe.due("a text of 40", p.link(forty, "m"), 2);
        Probe.due("to what", p.file("ab"), 3);
        Probe.due("it is followed", p.followed("m"), 3);
        Probe.due("a text of 41", p.link("a".repeat(41), "n"), FindTree.LONG);
        Probe.due("long before another fault", p.link("a".repeat(41), "x/Q"), FindTree.LONG);
        Probe.due("long without a second word", p.line("a".repeat(41)).tree.link(0), FindTree.LONG);
        Probe.due("no second word", p.line("a").tree.link(0), FindTree.NOENT);
        Probe.due("no word", p.line("").tree.link(0), FindTree.NOENT);
        Probe.due("there already", p.link("a", "ab"), FindTree.EXISTS);
        Probe.due("a bad name", p.link("a", ".."), FindTree.BADNAME);
        Probe.due("in a file", p.link("a", "ab/c"), FindTree.NOTDIR);
        Probe.due("a third word is nothing", p.link("ab", "o p"), 4);
        Probe.due("nodes", p.tree.count(0), 5);

        p.line("a q");
        for (int day : new int[] {-1, 1000000}) {
            Probe.dueThrow("link " + day, IllegalArgumentException.class, () -> p.tree.link(day));
        }
        Probe.due("nothing was made", p.node("q"), FindTree.NOENT);
        p.line("a".repeat(41));
        Probe.dueThrow("before a fault", IllegalArgumentException.class, () -> p.tree.link(-1));
        Probe.end();
    }
}
