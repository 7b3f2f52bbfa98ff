/** Promise 11. */
public final class RealTest {
    public static void main(String[] args) {
        Probe p = new Probe();
        p.dir("d");
        p.dir("d/e");
        p.file("d/e/f");
        p.tie("d/e/f", "g");
        p.link("d/e", "l");
        p.link("../e/f", "d/m");
        Probe.due("the root", p.real("/"), "/");
        Probe.due("its length", p.tree.count(2), 1);
        Probe.due("the root by ..", p.real(".."), "/");
        Probe.due("a directory", p.real("d//./e/"), "/d/e");
        Probe.due("a directory by ..", p.real("d/e/.."), "/d");
        Probe.due("a file", p.real("l/f"), "/d/e/f");
        Probe.due("by its other name", p.real("d/../g"), "/g");
        Probe.due("a link, followed", p.real("l"), "/d/e");
        Probe.due("a link that leads nowhere", p.real("d/m"), "-2");
        Probe.due("the output stays", p.output(), "/d/e");
        Probe.due("no word", p.real(""), "-2");
        Probe.due("a file with /", p.real("g/"), "-3");
        p.bits("d", 6);
        Probe.due("closed", p.real("d/e"), "-4");
        Probe.due("the output stays", p.output(), "/d/e");
        p.bits("d", 7);
        p.drop("d/m");
        p.link("e/f", "d/m");
        Probe.due("the name behind the link", p.real("d/m"), "/d/e/f");
        p.find("d -name x");
        Probe.due("after a find without lines", p.real("g"), "/g");
        p.line("d -nix").tree.find(0);
        p.real("g");
        Probe.due("the place stays", p.tree.place(), 1);

        Probe deep = new Probe();
        StringBuilder path = new StringBuilder();
        for (int i = 0; i < 47; i++) {
            deep.dir("abcdefghijklmn");
            deep.go("abcdefghijklmn");
            path.append("/abcdefghijklmn");
        }
        Probe.due("the longest path", deep.real("."), path.toString());
        Probe.due("HERE's parent", deep.real(".."), path.substring(15));
        Probe.end();
    }
}
