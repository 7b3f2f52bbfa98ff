/** Promise 6. */
public final class TieTest {
    public static void main(String[] args) {
        ordinary();
        firstWord();
        kind();
        secondWord();
        Probe.end();
    }

    private static void ordinary() {
        Probe.sentence("A file or link (the first word, not FOLLOWED) gets one more TIE, at the NEW PLACE that is the"
            + " second one: its number");
        Probe p = new Probe();
        p.dir("d");
        p.file("f", 5, 6);
        p.link("f", "l");
        Probe.due("a file", p.tie("f", "d/g/"), 2);
        Probe.due("its ties", p.tree.tell(2, 3), 2);
        Probe.due("its number", p.node("d/g"), 2);
        Probe.due("a link, not followed", p.tie("l", "d/m"), 3);
        Probe.due("the link's ties", p.tree.tell(3, 3), 2);
        Probe.due("the file's ties", p.tree.tell(2, 3), 2);
        Probe.due("a link's text counts from where it is", p.followed("d/m"), FindTree.NOENT);
        p.file("d/f");
        Probe.due("a link's text counts from where it is", p.followed("d/m"), 4);
        Probe.due("and there too", p.followed("l"), 2);
        Probe.due("nodes", p.tree.count(0), 5);
        p.link("d/f", "n");
        p.link("d", "k");
        Probe.due("a link on the way is followed", p.tie("k/f", "o"), 4);
        Probe.due("a link in the second word is followed", p.tie("f", "k/p"), 2);
        Probe.due("a link that leads to nothing", p.link("x", "q"), 7);
        Probe.due("a link that leads to nothing", p.tie("q", "r"), 7);
        Probe.due("its ties", p.tree.tell(7, 3), 2);
        Probe.due("the same place twice", p.tie("q", "r"), FindTree.EXISTS);
        Probe.due("its own place", p.tie("q", "q"), FindTree.EXISTS);
    }

    /** Of the tree: d with e, f in the root, c (not gone through) with x, k (not changed), o a ring, full. */
    private static Probe faulty() {
        Probe p = new Probe();
        p.dir("d");
        p.dir("d/e");
        p.file("f");
        p.link("f", "l");
        p.link("d", "ld");
        p.link("o", "o");
        p.dir("c");
        p.file("c/x");
        p.dir("k");
        p.dir("full");
        for (int i = 0; i < 12; i++) {
            p.tie("f", "full/" + i);
        }
        p.bits("c", 6);
        p.bits("k", 5);
        return p;
    }

    private static final String[] SECOND = {"", "Q", "x/y", "f/y", "c/y", "k/y", "o/y", "f", "full/y"};
    private static final int[] SECOND_FAULTS = {FindTree.NOENT, FindTree.BADNAME, FindTree.NOENT, FindTree.NOTDIR,
        FindTree.CLOSED, FindTree.CLOSED, FindTree.LOOP, FindTree.EXISTS, FindTree.FULL};

    private static void firstWord() {
        Probe.sentence("or a fault, of the first word first");
        Probe p = faulty();
        String[] first = {"x", "d/x", "f/", "l/", "f/x", "c/x", "o/"};
        int[] faults = {FindTree.NOENT, FindTree.NOENT, FindTree.NOTDIR, FindTree.NOTDIR, FindTree.NOTDIR,
            FindTree.CLOSED, FindTree.LOOP};
        for (int i = 0; i < first.length; i++) {
            Probe.due("tie " + first[i] + " y", p.tie(first[i], "y"), faults[i]);
            for (String second : SECOND) {
                Probe.due("tie " + first[i] + " " + second, p.tie(first[i], second), faults[i]);
            }
        }
        Probe.due("no word", p.line("").tree.tie(), FindTree.NOENT);
    }

    private static void kind() {
        Probe.sentence("(then KIND if it is a directory, then of the second)");
        Probe p = faulty();
        for (String first : new String[] {"d", "d/", "d/e", ".", "..", "/", "ld/", "c", "full"}) {
            Probe.due("tie " + first + " y", p.tie(first, "y"), FindTree.KIND);
            for (String second : SECOND) {
                Probe.due("tie " + first + " " + second, p.tie(first, second), FindTree.KIND);
            }
        }
        Probe.due("a link to a directory is none", p.tie("ld", "y"), 5);
    }

    private static void secondWord() {
        Probe p = faulty();
        int ties = p.tree.tell(3, 3);
        for (int i = 0; i < SECOND.length; i++) {
            Probe.due("tie f " + SECOND[i], p.tie("f", SECOND[i]), SECOND_FAULTS[i]);
            Probe.due("tie o " + SECOND[i], p.tie("o", SECOND[i]), SECOND_FAULTS[i]);
        }
        Probe.due("its ties stay", p.tree.tell(3, 3), ties);
        Probe.due("the link's stay", p.tree.tell(6, 3), 1);
        Probe.due("names of the root stay", p.tree.tell(0, 4), 8);
    }
}
