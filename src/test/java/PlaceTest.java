/** Promise 13, and the grammar of an EXPRESSION. */
public final class PlaceTest {
    public static void main(String[] args) {
        Probe p = new Probe();
        p.file("-print");
        String[][] rows = {
            {"-o", "0"}, {"-a", "0"}, {"-x", "0"}, {"-", "0"}, {"( )", "1"}, {"(", "1"}, {"!", "1"}, {"! !", "2"},
            {". x", "1"}, {". )", "1"}, {". (", "2"}, {". ( -print", "3"}, {". ( -print ) )", "4"},
            {"-print )", "1"}, {"-print -o", "2"}, {"-print -a", "2"}, {"-print -o -o -print", "2"},
            {"-print -a -o -print", "2"}, {"-print -o )", "2"}, {"( -print -o )", "3"}, {"-print x", "1"},
            {"-print !", "2"}, {"! -o", "1"}, {"! )", "1"}, {"( ! -print x )", "3"}, {"-print (", "2"},
            {"-name", "1"}, {". -name", "2"}, {"-type", "1"}, {"-type x", "1"}, {"-type dd", "1"}, {"-type D", "1"},
            {"-size", "1"}, {"-size x", "1"}, {"-size +", "1"}, {"-size -", "1"}, {"-size 1234567", "1"},
            {"-size +1234567", "1"}, {"-size ++1", "1"}, {"-size 1k", "1"}, {"-size 1-", "1"}, {"-size :", "1"},
            {"-mtime", "1"}, {"-mtime 1.", "1"}, {"-links", "1"}, {"-links -a", "1"}, {"-newer", "1"},
            {". -newer", "2"}, {"-name -name -name", "3"}, {"-printx", "0"}, {"-PRINT", "0"}, {". (-print )", "1"},
            {". -print -depth -prune foo -bar", "4"}, {"( ".repeat(50), "50"}, {"! ".repeat(50), "50"},
            {"-print ) -x", "1"}, {"-type -print", "1"}};
        for (String[] row : rows) {
            Probe.due("find " + row[0], p.syntax(row[0]), "word " + row[1]);
        }
        String[] good = {"", ".", "-print", "( -print )", "! -print", "! ( ! -print -o -prune ) -a -depth",
            "-name -o", "-name ( -print", "-name !", "-newer -print", "-size 000000 -size +999999 -size -0",
            "-print -print ! -print ( -print )", "! ".repeat(47) + "-print",
            "( ".repeat(23) + "-print" + " )".repeat(23)};
        for (String line : good) {
            Probe.due("SYNTAX of find " + line, p.line(line).tree.find(0) == FindTree.SYNTAX, false);
            Probe.due("place after find " + line, p.tree.place(), -1);
        }

        p.syntax(". x");
        p.node("nowhere");
        Probe.due("the place stays till the next find", p.tree.place(), 1);
        Probe.dueThrow("a find without bounds", IllegalArgumentException.class, () -> p.tree.find(-1));
        Probe.due("is none", p.tree.place(), 1);
        Probe.due("another fault", p.find("nowhere"), "-2");
        Probe.due("has no place", p.tree.place(), -1);
        Probe.end();
    }
}
