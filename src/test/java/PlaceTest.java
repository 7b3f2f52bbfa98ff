/** Promise 13, and the grammar of an EXPRESSION. */
public final class PlaceTest {
    public static void main(String[] args) {
        words();
        lastFind();
        Probe.end();
    }

    private static void words() {
        Probe.sentence("SYNTAX, with the word (from 0 on; as many as there are if one is missing) at which THE LINE can't go"
            + " on, before all others");
        Probe p = new Probe();
        p.file("-print");
        String[][] rows = {
            {"-o", "0"}, {"-a", "0"}, {"-x", "0"}, {"-", "0"}, {"( )", "1"}, {"(", "1"}, {"!", "1"}, {"! !", "2"},
            {". x", "1"}, {". )", "1"}, {". (", "2"}, {". ( -print", "3"}, {". ( -print ) )", "4"},
            {"-print )", "1"}, {"-print -o", "2"}, {"-print -a", "2"}, {"-print -o -o -print", "2"},
            {"-print -a -o -print", "2"}, {"-print -o )", "2"}, {"( -print -o )", "3"}, {"-print x", "1"},
            {"-print !", "2"}, {"! -o", "1"}, {"! )", "1"}, {"( ! -print x )", "3"}, {"-print (", "2"},
            {"-name", "1"}, {". -name", "2"}, {"-type", "1"}, {"-type x", "1"}, {"-type dd", "1"}, {"-type D", "1"},
            {"-size", "1"}, {"-size x", "1"}, {"-size +", "1"}, {"-size -", "1"}, {"-size 1234567", "1"},
            {"-size +1234567", "1"}, {"-size ++1", "1"}, {"-size 1k", "1"}, {"-size 1-", "1"}, {"-size :", "1"},
            {"-mtime", "1"}, {"-mtime 1.", "1"}, {"-links", "1"}, {"-links -a", "1"}, {"-newer", "1"},
            {". -newer", "2"}, {"-name -name -name", "3"}, {"-printx", "0"}, {"-PRINT", "0"}, {". (-print )", "1"},
            {". -print -depth -prune foo -bar", "4"}, {"( ".repeat(50), "50"}, {"! ".repeat(50), "50"},
            {"-print ) -x", "1"}, {"-type -print", "1"}, {"nowhere -x", "1"}, {"nowhere -newer", "2"},
            {"nowhere -newer nowhere )", "3"}, {"nowhere -newer nowhere -newer nowhere -o", "6"}, {"-print -a -a", "2"},
            {"-print -o -a -print", "2"}, {"( -print ( -print )", "5"}, {"( -print ) (", "4"}, {"( ( -print ) ) )", "5"},
            {"! ! )", "2"}, {"( ! )", "2"}, {"( -o", "1"}, {"( -a", "1"}, {"-depth -depth -dept", "2"}, {"-o -print", "0"},
            {". . -print", "1"}, {"-print -size", "2"}, {"-newer x x", "2"}, {"-prune d", "1"}, {"-print d -x", "1"},
            {"-print!", "0"}, {". -print)", "1"}, {". !-print", "1"}, {"-name x -type", "3"}, {"-Name x", "0"},
            {"-names x", "0"}, {"-nam x", "0"}, {"--print", "0"}, {". print", "1"}, {". -type d f", "3"},
            {"-size + 1", "1"}, {"-and -print", "0"}, {"-print -or -print", "1"}, {"-print -not -print", "1"}};
        for (String[] row : rows) {
            Probe.due("find " + row[0], p.syntax(row[0]), "word " + row[1]);
        }
        Probe.sentence("an OR is one or more ANDs parted by -o, an AND one or more NOTS, parted by -a or nothing, a NOT is !"
            + " and a NOT, ( and an OR and ), or a TEST");
        String[] good = {"", ".", "-print", "( -print )", "! -print", "! ( ! -print -o -prune ) -a -depth",
            "-name -o", "-name ( -print", "-name !", "-newer -print", "-size 000000 -size +999999 -size -0",
            "-print -print ! -print ( -print )", "( ( -print ) )", "! ( -print )", "( ! -print )", "-print -a ! -print",
            "-print -o ! -print", "-print -a ( -print )", "-print ( -print -o -print ) -o ! ! -print",
            "-print -a -print -o -print -a -print", "nowhere -print -o -print", ") -print", "-name ) -o -name -a",
            "! ".repeat(47) + "-print",
            "( ".repeat(23) + "-print" + " )".repeat(23)};
        for (String line : good) {
            Probe.due("SYNTAX of find " + line, p.line(line).tree.find(0) == FindTree.SYNTAX, false);
            Probe.due("place after find " + line, p.tree.place(), -1);
        }
    }

    private static void lastFind() {
        Probe.sentence("The word of the last SYNTAX; -1 if the last find had none.");
        Probe p = new Probe();
        Probe.due("no find yet", p.tree.place(), -1);
        p.node("nowhere");
        Probe.due("still no find", p.tree.place(), -1);
        p.syntax("-x");
        Probe.due("word 0", p.tree.place(), 0);
        p.syntax(". -print -print");
        Probe.due("a good find", p.tree.place(), -1);
        p.syntax(". -print -print )");
        Probe.due("word 3", p.tree.place(), 3);
        p.syntax(". -size");
        Probe.due("another SYNTAX", p.tree.place(), 2);
        p.find(". -newer nowhere");
        Probe.due("a fault of -newer", p.tree.place(), -1);
        p.syntax(". x");
        p.node("nowhere");
        Probe.due("the place stays till the next find", p.tree.place(), 1);
        Probe.dueThrow("a find without bounds", IllegalArgumentException.class, () -> p.tree.find(-1));
        Probe.due("is none", p.tree.place(), 1);
        Probe.due("another fault", p.find("nowhere"), "-2");
        Probe.due("has no place", p.tree.place(), -1);
        p.syntax(". -x");
        p.tree.erase();
        p.dir("d");
        p.go("d");
        p.real(".");
        Probe.due("all other calls leave it", p.tree.place(), 1);
    }
}
