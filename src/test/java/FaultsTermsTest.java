/** Calls that answer a fault, and calls that are refused, change nothing but what is said of find. */
public final class FaultsTermsTest {
    private static final int HERE = 20;

    /** A call, THE LINE and the fault that is due. */
    private static final String[][] PLACES = {
        {"", "NOENT"}, {"/x/y", "NOENT"}, {"/f/y", "NOTDIR"}, {"/lf/y", "NOTDIR"}, {"/c/y", "CLOSED"}, {"/k/y", "CLOSED"},
        {"/o/y", "LOOP"}, {"Q", "BADNAME"}, {"..", "BADNAME"}, {"/", "BADNAME"}, {"abcdefghijklmno", "BADNAME"},
        {"/f", "EXISTS"}, {"/d/", "EXISTS"}, {"/full/z", "FULL"}};
    private static final String[][] WAYS = {
        {"", "NOENT"}, {"x", "NOENT"}, {"/f/", "NOTDIR"}, {"/f/x", "NOTDIR"}, {"/c/x", "CLOSED"}, {"/c/.", "CLOSED"},
        {"/o/", "LOOP"}};
    private static final String[][] OTHERS = {
        {"link", "x".repeat(41) + " y", "LONG"}, {"link", "x".repeat(41), "LONG"},
        {"tie", "/d y", "KIND"}, {"tie", "/ld/ y", "KIND"}, {"tie", ". y", "KIND"},
        {"drop", ".", "KIND"}, {"drop", "..", "KIND"}, {"drop", "/", "KIND"}, {"drop", "/h", "KIND"},
        {"drop", "/d/.", "KIND"}, {"drop", "/ld/..", "KIND"}, {"drop", "/k/x", "CLOSED"}, {"drop", "/k/s", "CLOSED"},
        {"drop", "/d", "NOTEMPTY"}, {"drop", "/full/", "NOTEMPTY"},
        {"bits", "/f", "KIND"}, {"bits", "/lf", "KIND"}, {"bits", "/o", "LOOP"},
        {"go", "/f", "NOTDIR"}, {"go", "/lf", "NOTDIR"}, {"go", "/c", "CLOSED"}, {"go", "/o", "LOOP"},
        {"followed", "/o", "LOOP"}, {"real", "/o", "LOOP"}};

    public static void main(String[] args) throws ReflectiveOperationException {
        Probe.sentence("A call that answers a fault changes nothing but what is said of find.");
        for (String[] row : PLACES) {
            faulty("make", row[0], row[1]);
            faulty("directory", row[0], row[1]);
            faulty("link", "text " + row[0], row[1]);
            faulty("tie", "/f " + row[0], row[1]);
        }
        for (String[] row : WAYS) {
            for (String call : new String[] {"drop", "bits", "go", "node", "followed", "real"}) {
                faulty(call, row[0], row[1]);
            }
            faulty("tie", row[0].isEmpty() ? "" : row[0] + " y", row[1]);
        }
        for (String[] row : OTHERS) {
            faulty(row[0], row[1], row[2]);
        }
        fullTree();
        faultyFinds();
        refused();
        Probe.end();
    }

    private static Probe world() {
        Probe p = new Probe();
        p.file("f", 3, 4);
        p.dir("d");
        p.file("d/f");
        p.dir("full");
        for (char c = 'a'; c <= 'l'; c++) {
            p.tie("f", "full/" + c);
        }
        p.dir("c");
        p.file("c/x");
        p.dir("k");
        p.file("k/x");
        p.dir("k/s");
        p.file("k/s/t");
        p.link("o", "o");
        p.link("f", "lf");
        p.link("d", "ld");
        p.bits("c", 6);
        p.bits("k", 5);
        for (int i = p.tree.count(0); i < HERE; i++) {
            p.dir("d/n" + i);
        }
        p.dir("h");
        p.go("h");
        return p;
    }

    /** A world with lines in THE OUTPUT and a COMPLAINT. */
    private static Probe searched() {
        Probe p = world();
        Probe.due("a complaint", p.find("/ -type d").isEmpty() ? 0 : p.tree.count(1), 1);
        return p;
    }

    /** A world with a path in THE OUTPUT and the word of a SYNTAX. */
    private static Probe misspelt() {
        Probe p = world();
        p.syntax(". -type x");
        p.real(".");
        Probe.due("the word", p.tree.place(), 2);
        return p;
    }

    private static int call(FindTree tree, String name) {
        return switch (name) {
            case "make" -> tree.make(false, 8, 9);
            case "directory" -> tree.make(true, 8, 9);
            case "link" -> tree.link(9);
            case "tie" -> tree.tie();
            case "drop" -> tree.drop();
            case "bits" -> tree.bits(2);
            case "go" -> tree.go();
            case "node" -> tree.node(false);
            case "followed" -> tree.node(true);
            case "real" -> tree.real();
            default -> tree.find(9);
        };
    }

    private static int number(String fault) throws ReflectiveOperationException {
        return FindTree.class.getField(fault).getInt(null);
    }

    private static void faulty(String call, String line, String fault) throws ReflectiveOperationException {
        faulty(searched(), call, line, number(fault));
        faulty(misspelt(), call, line, number(fault));
    }

    private static void faulty(Probe p, String call, String line, int fault) {
        String before = p.line(line).state();
        Probe.due(call + " " + line, call(p.tree, call), fault);
        Probe.due("the state after " + call + " " + line, p.state(), before);
        Probe.due("the same again: " + call + " " + line, call(p.tree, call), fault);
        Probe.due("HERE after " + call + " " + line, p.here(), HERE);
    }

    private static void fullTree() {
        for (String call : new String[] {"make", "directory", "link"}) {
            Probe p = searched();
            for (int i = p.tree.count(0); i < 48; i++) {
                // The six directories d/n14 to d/n19 take five at most.
                p.file("/d/n" + (14 + i % 6) + "/f" + i);
            }
            Probe.due("nodes", p.tree.count(0), 48);
            faulty(p, call, "x y", FindTree.FULL);
        }
    }

    /** Of find: THE OUTPUT and the COMPLAINTS are new, also if it comes to a fault; all else stays. */
    private static void faultyFinds() {
        Probe.sentence("When it begins, THE OUTPUT is empty, and there are no COMPLAINTS (also if it comes to a fault).");
        String[][] rows = {{"-x", "-12", "0"}, {". -size", "-12", "2"}, {"x -newer x )", "-12", "3"},
            {". -newer x", "-2", "-1"}, {"/ -newer /c/x", "-4", "-1"}, {"/ -newer /o", "-5", "-1"}, {"x", "-2", "-1"},
            {"/f/", "-3", "-1"}, {"/c/x", "-4", "-1"}, {"/o/", "-5", "-1"}};
        for (String[] row : rows) {
            for (Probe p : new Probe[] {searched(), misspelt()}) {
                String before = p.line(row[0]).nodes();
                Probe.due("find " + row[0], p.tree.find(9), Integer.parseInt(row[1]));
                Probe.due("THE OUTPUT of find " + row[0], p.tree.count(2), 0);
                Probe.due("its first character", p.tree.output(0), ' ');
                Probe.due("COMPLAINTS of find " + row[0], p.tree.count(1), 0);
                Probe.due("the place of find " + row[0], p.tree.place(), Integer.parseInt(row[2]));
                Probe.due("nodes after find " + row[0], p.nodes(), before);
                Probe.due("THE LINE after find " + row[0], p.tree.erase(), row[0].length());
                Probe.due("HERE after find " + row[0], p.here(), HERE);
            }
        }
    }

    /** The document doesn't say what a call that throws changes: nothing, as it is refused. */
    private static void refused() {
        Probe.sentence("");
        for (Probe p : new Probe[] {searched(), misspelt()}) {
            String full = "/x ".repeat(32) + "/y";
            String before = p.line(full).state();
            Probe.dueThrow("type", IllegalStateException.class, () -> p.tree.type('a', 'b', 'c', 0, 0));
            for (int wrong : new int[] {-1, 1000000, Integer.MIN_VALUE, Integer.MAX_VALUE}) {
                Probe.dueThrow("make", IllegalArgumentException.class, () -> p.tree.make(true, wrong, 0));
                Probe.dueThrow("make", IllegalArgumentException.class, () -> p.tree.make(true, 0, wrong));
                Probe.dueThrow("make", IllegalArgumentException.class, () -> p.tree.make(false, wrong, 0));
                Probe.dueThrow("make", IllegalArgumentException.class, () -> p.tree.make(false, 0, wrong));
                Probe.dueThrow("link", IllegalArgumentException.class, () -> p.tree.link(wrong));
                Probe.dueThrow("bits", IllegalArgumentException.class, () -> p.tree.bits(wrong));
                Probe.dueThrow("find", IllegalArgumentException.class, () -> p.tree.find(wrong));
                Probe.dueThrow("tell", IndexOutOfBoundsException.class, () -> p.tree.tell(wrong, 0));
            }
            Probe.due("the state after refused calls", p.state(), before);
            Probe.due("HERE after refused calls", p.here(), HERE);
        }
    }
}
