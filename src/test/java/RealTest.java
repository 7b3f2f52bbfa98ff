/** Promise 11. */
public final class RealTest {
    public static void main(String[] args) {
        ordinary();
        stays();
        longest();
        Probe.end();
    }

    /** THE OUTPUT after a fault, for each fault that a way can have, and with lines of a find in it too. */
    private static void stays() {
        Probe.sentence("or a fault (and it stays)");
        Probe p = new Probe();
        p.dir("d");
        p.file("d/f");
        p.link("o", "o");
        p.link("x", "n");
        p.dir("c");
        p.bits("c", 6);
        String[] lines = {"", "x", "n", "d/f/", "d/f/x", "c/x", "c/.", "o"};
        int[] faults = {-2, -2, -2, -3, -3, -4, -4, -5};
        for (int i = 0; i < lines.length; i++) {
            Probe.due("a path to keep", p.real("d/f"), "/d/f");
            Probe.due("real " + lines[i], p.line(lines[i]).tree.real(), faults[i]);
            Probe.due("it stays", p.output(), "/d/f");
            p.find("d");
            Probe.due("real " + lines[i] + " after find", p.line(lines[i]).tree.real(), faults[i]);
            Probe.due("find's lines stay", p.output(), "d\nd/f\n");
        }
        Probe.due("nothing to keep", new Probe().real("x"), "-2");
    }

    private static void ordinary() {
        Probe.sentence("THE OUTPUT is the shortest path, from / on, without links, . and .., of the first word's node"
            + " (FOLLOWED; by the NAME with which one came to it): how many characters");
        Probe p = new Probe();
        p.dir("d");
        p.dir("d/e");
        p.file("d/e/f");
        p.tie("d/e/f", "g");
        p.link("d/e", "l");
        p.link("../e/f", "d/m");
        Probe.due("the root", p.real("/"), "/");
        Probe.due("its length", p.tree.count(2), 1);
        Probe.due("the root by ..", p.real(".."), "/");
        Probe.due("a directory", p.real("d//./e/"), "/d/e");
        Probe.due("a directory by ..", p.real("d/e/.."), "/d");
        Probe.due("a file", p.real("l/f"), "/d/e/f");
        Probe.due("by its other name", p.real("d/../g"), "/g");
        Probe.due("a link, followed", p.real("l"), "/d/e");
        Probe.due("a link that leads nowhere", p.real("d/m"), "-2");
        Probe.due("the output stays", p.output(), "/d/e");
        Probe.due("no word", p.real(""), "-2");
        Probe.due("a file with /", p.real("g/"), "-3");
        p.bits("d", 6);
        Probe.due("closed", p.real("d/e"), "-4");
        Probe.due("the output stays", p.output(), "/d/e");
        p.bits("d", 7);
        p.drop("d/m");
        p.link("e/f", "d/m");
        Probe.due("the name behind the link", p.real("d/m"), "/d/e/f");
        p.find("d -name x");
        Probe.due("after a find without lines", p.real("g"), "/g");
        p.line("d -nix").tree.find(0);
        p.real("g");
        Probe.due("the place stays", p.tree.place(), 1);
        p.link("/", "r");
        Probe.due("a link to the root", p.real("r"), "/");
        Probe.due("through the root", p.real("r/r/d/e/../e/f"), "/d/e/f");
        Probe.due("a file with two names", p.real("r/g"), "/g");
        p.go("d/e");
        Probe.due("from HERE", p.real("f"), "/d/e/f");
        Probe.due("HERE", p.real("."), "/d/e");
        Probe.due("above HERE", p.real(".."), "/d");
        Probe.due("far above HERE", p.real("../../.."), "/");
    }

    private static void longest() {
        Probe deep = new Probe();
        StringBuilder path = new StringBuilder();
        for (int i = 0; i < 47; i++) {
            deep.dir("abcdefghijklmn");
            deep.go("abcdefghijklmn");
            path.append("/abcdefghijklmn");
        }
        Probe.due("the longest path", deep.real("."), path.toString());
        Probe.due("its characters", deep.tree.count(2), 705);
        Probe.due("HERE's parent", deep.real(".."), path.substring(15));
    }
}
