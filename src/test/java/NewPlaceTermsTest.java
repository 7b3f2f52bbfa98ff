/** What the terms say of a NEW PLACE, for each of the calls that have one. */
public final class NewPlaceTermsTest {
    /** A call with a NEW PLACE: make of a directory and of a file, link, tie. */
    private static final String[] CALLS = {"directory", "file", "link", "tie"};

    public static void main(String[] args) {
        for (String call : CALLS) {
            lastStep(call);
            badNameFirst(call);
            theRest(call);
            notDirectory(call);
            closed(call);
            exists(call);
            fullDirectory(call);
            order(call);
        }
        fullTree();
        Probe.end();
    }

    /** Of the tree: t (a file to be tied); d with e; f; l to d/e, m to f, o to itself. */
    private static Probe small() {
        Probe p = new Probe();
        p.file("t");
        p.dir("d");
        p.dir("d/e");
        p.file("f");
        p.link("d/e", "l");
        p.link("f", "m");
        p.link("o", "o");
        return p;
    }

    private static int put(Probe p, String call, String path) {
        return switch (call) {
            case "directory" -> p.dir(path);
            case "file" -> p.file(path);
            case "link" -> p.link("x", path);
            default -> p.tie("/t", path);
        };
    }

    /** The number that the call answers in the small tree when all goes well. */
    private static int good(String call) {
        return call.equals("tie") ? 1 : 8;
    }

    private static void lastStep(String call) {
        Probe.sentence("A NEW PLACE is a PATH whose last STEP, / at the end left out, is a NAME");
        for (String path : new String[] {"n", "n/", "n////", "./n", "/n", "//n//", "d/../n", "d/e/../../n"}) {
            Probe p = small();
            Probe.due(call + " at " + path, put(p, call, path), good(call));
            Probe.due(call + " at " + path + " is there", p.node("/n"), good(call));
        }
    }

    private static void badNameFirst(String call) {
        Probe.sentence("(BADNAME, first of all, if it has none such)");
        Probe p = small();
        p.bits("d", 0);
        String[] bad = {".", "..", "/", "//", "./", "..//", "Q", "abcdefghijklmno", "abcdefghijklmno/", "a*", "/.", "/..",
            "x/Q", "x/.", "x/..", "f/Q", "f/..", "o/Q", "o/.", "d/Q", "d/..", "l/../.", "x/Q/"};
        for (String path : bad) {
            Probe.due(call + " at " + path, put(p, call, path), FindTree.BADNAME);
        }
    }

    private static void theRest(String call) {
        Probe.sentence("in the directory where the rest leads (HERE or the root if there is none), FOLLOWED");
        Probe p = small();
        p.go("d");
        Probe.due(call + " at HERE", put(p, call, "n"), good(call));
        Probe.due(call + " at HERE is there", p.node("/d/n"), good(call));
        p = small();
        p.go("d");
        Probe.due(call + " at the root", put(p, call, "/n"), good(call));
        Probe.due(call + " at the root is there", p.node("/n"), good(call));
        p = small();
        p.go("d");
        Probe.due(call + " by a link", put(p, call, "/l/n"), good(call));
        Probe.due(call + " by a link is there", p.node("/d/e/n"), good(call));
        p = small();
        Probe.due(call + " where nothing leads", put(p, call, "x/n"), FindTree.NOENT);
        Probe.due(call + " behind a ring", put(p, call, "o/n"), FindTree.LOOP);
        Probe.due(call + " behind a link to nothing", p.link("x", "k"), 8);
        Probe.due(call + " behind a link to nothing", put(p, call, "k/n"), FindTree.NOENT);
        p.bits("d", 6);
        Probe.due(call + " on a closed way", put(p, call, "d/e/n"), FindTree.CLOSED);
        Probe.due(call + " on a way that a link closes", put(p, call, "l/n"), FindTree.CLOSED);
    }

    private static void notDirectory(String call) {
        Probe.sentence("NOTDIR if it is none");
        Probe p = small();
        for (String path : new String[] {"f/n", "f//n/", "m/n", "d/../f/n", "f/n/", "f/./n", "f/n/n"}) {
            Probe.due(call + " at " + path, put(p, call, path), FindTree.NOTDIR);
        }
    }

    private static void closed(String call) {
        Probe.sentence("CLOSED if it may not be changed, or not gone through");
        for (int bits = 0; bits < 8; bits++) {
            for (String path : new String[] {"d/n", "d//n", "/d/n/"}) {
                Probe p = small();
                p.bits("d", bits);
                Probe.due(call + " with bits " + bits, put(p, call, path),
                    (bits & 3) == 3 ? good(call) : FindTree.CLOSED);
            }
            Probe p = small();
            p.go("d");
            p.bits("/d", bits);
            Probe.due(call + " at HERE with bits " + bits, put(p, call, "n"),
                (bits & 3) == 3 ? good(call) : FindTree.CLOSED);
            Probe q = small();
            q.bits("/", bits);
            // The way to the node that is tied goes through the root too.
            Probe.due(call + " at the root with bits " + bits, put(q, call, "/n"),
                (bits & 3) == 3 ? good(call) : FindTree.CLOSED);
        }
    }

    private static void exists(String call) {
        Probe.sentence("EXISTS if it has the NAME");
        Probe p = small();
        for (String path : new String[] {"d", "f", "l", "m", "o", "t", "d/e", "d/", "f/", "l/", "o/", "./d/e//"}) {
            Probe.due(call + " at " + path, put(p, call, path), FindTree.EXISTS);
        }
        Probe.due(call + " at a part of a NAME", p.dir("abc"), 8);
        Probe.due(call + " at a part of a NAME", put(p, call, "ab") > 0, true);
        Probe.due(call + " at a NAME and more", put(p, call, "abcd") > 0, true);
        Probe.due(call + " at a NAME of another directory", put(p, call, "d/f") > 0, true);
    }

    private static void fullDirectory(String call) {
        Probe.sentence("FULL if it has 12 NAMES");
        for (String directory : new String[] {"", "d/", "d/e/"}) {
            Probe p = small();
            int number = directory.isEmpty() ? 0 : p.node(directory);
            for (int names = p.tree.tell(number, 4); names < 12; names++) {
                Probe.due(call + " as name " + names, put(p, call, directory + "n" + names) > 0, true);
            }
            Probe.due("names", p.tree.tell(number, 4), 12);
            Probe.due(call + " as the thirteenth in " + directory, put(p, call, directory + "n"), FindTree.FULL);
            Probe.due("names still", p.tree.tell(number, 4), 12);
            p.drop(directory + "n10");
            Probe.due(call + " as the twelfth again", put(p, call, directory + "n") > 0, true);
        }
    }

    private static void order(String call) {
        Probe p = small();
        for (int names = 1; names < 12; names++) {
            p.tie("t", "d/n" + names);
        }
        Probe.sentence("EXISTS if it has the NAME, FULL if it has 12 NAMES");
        Probe.due(call + ": EXISTS before FULL", put(p, call, "d/n5"), FindTree.EXISTS);
        p.bits("d", 5);
        Probe.sentence("CLOSED if it may not be changed, or not gone through, EXISTS if it has the NAME");
        Probe.due(call + ": CLOSED before EXISTS", put(p, call, "d/n5"), FindTree.CLOSED);
        Probe.due(call + ": CLOSED before FULL", put(p, call, "d/x"), FindTree.CLOSED);
        p.bits("d", 6);
        Probe.due(call + ": CLOSED, not gone through, before EXISTS", put(p, call, "d/n5"), FindTree.CLOSED);
        Probe.due(call + ": CLOSED, not gone through, before FULL", put(p, call, "d/x"), FindTree.CLOSED);
        Probe.due(call + ": BADNAME before CLOSED", put(p, call, "d/Q"), FindTree.BADNAME);
    }

    private static void fullTree() {
        Probe.sentence("FULL if it has 12 NAMES, or (for a new node) there are 48.");
        Probe p = small();
        p.dir("d/g");
        p.dir("d/h");
        p.dir("d/i");
        for (int nodes = p.tree.count(0); nodes < 48; nodes++) {
            String path = "d/" + "eghi".charAt(nodes % 4) + "/n" + nodes;
            Probe.due("node " + nodes, p.file(path), nodes);
        }
        for (String call : CALLS) {
            boolean tie = call.equals("tie");
            Probe.due(call + " with 48 nodes", put(p, call, "n"), tie ? 1 : FindTree.FULL);
            Probe.due(call + ": EXISTS before FULL", put(p, call, "d"), FindTree.EXISTS);
            Probe.due(call + ": BADNAME before FULL", put(p, call, "Q"), FindTree.BADNAME);
            Probe.due(call + ": NOENT before FULL", put(p, call, "x/n"), FindTree.NOENT);
            Probe.due(call + ": NOTDIR before FULL", put(p, call, "f/n"), FindTree.NOTDIR);
        }
        Probe.due("nodes", p.tree.count(0), 48);
        p.drop("d/e/n12");
        Probe.due("nodes after a drop", p.tree.count(0), 47);
        Probe.due("a link as the 48th", p.link("x", "k"), 12);
        Probe.due("one tie less is no node less", p.drop("n"), 1);
        Probe.due("a file as the 49th", p.file("j"), FindTree.FULL);
    }
}
