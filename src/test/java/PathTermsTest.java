/** What the terms say of a PATH, of GOING along it, and of a TEXT. */
public final class PathTermsTest {
    public static void main(String[] args) {
        steps();
        beginning();
        notDirectory();
        closed();
        dots();
        noSuchName();
        followed();
        textBegins();
        ninthLink();
        linksOfEachWay();
        slashAtTheEnd();
        missing();
        firstFault();
        text();
        Probe.end();
    }

    /** Of the tree: d with e with f; g; a link l to d/e and a link m to g. */
    private static Probe small() {
        Probe p = new Probe();
        p.dir("d");
        p.dir("d/e");
        p.file("d/e/f");
        p.file("g");
        p.link("d/e", "l");
        p.link("g", "m");
        return p;
    }

    private static void steps() {
        Probe.sentence("A PATH is a word of STEPS parted by one or more /.");
        Probe p = small();
        for (int count = 1; count < 30; count++) {
            String slashes = "/".repeat(count);
            Probe.due(count + " / between", p.node("d" + slashes + "e" + slashes + "f"), 3);
            Probe.due(count + " / in front", p.node(slashes + "d"), 1);
            Probe.due(count + " / behind", p.node("d" + slashes), 1);
            Probe.due(count + " / alone", p.node(slashes), 0);
        }
        Probe.due("a hundred characters", p.node("./".repeat(47) + "d//e/f"), 3);
    }

    private static void beginning() {
        Probe.sentence("It begins at the root if it begins with /, else HERE.");
        Probe p = small();
        p.file("d/g");
        p.go("d");
        Probe.due("with /", p.node("/g"), 4);
        Probe.due("with //", p.node("//g"), 4);
        Probe.due("without", p.node("g"), 7);
        Probe.due("with .", p.node("./g"), 7);
        Probe.due("/ alone", p.node("/"), 0);
        Probe.due(". alone", p.node("."), 1);
    }

    private static void notDirectory() {
        Probe.sentence("the node so far must be a directory (NOTDIR)");
        Probe p = small();
        for (String step : new String[] {"x", ".", "..", "g", "Q"}) {
            Probe.due("g/" + step, p.node("g/" + step), FindTree.NOTDIR);
            Probe.due("a link to a file, " + step, p.node("m/" + step), FindTree.NOTDIR);
            Probe.due("d/e/f/" + step, p.followed("d/e/f/" + step), FindTree.NOTDIR);
        }
    }

    private static void closed() {
        Probe.sentence("that may be gone through (CLOSED)");
        for (int bits = 0; bits < 8; bits++) {
            Probe p = small();
            p.bits("d/e", bits);
            boolean open = (bits & 1) == 1;
            Probe.due("a name with bits " + bits, p.node("d/e/f"), open ? 3 : FindTree.CLOSED);
            Probe.due("no name with bits " + bits, p.node("d/e/x"), open ? FindTree.NOENT : FindTree.CLOSED);
            Probe.due(". with bits " + bits, p.node("d/e/."), open ? 2 : FindTree.CLOSED);
            Probe.due(".. with bits " + bits, p.node("d/e/.."), open ? 1 : FindTree.CLOSED);
            Probe.due("by a link with bits " + bits, p.node("l/f"), open ? 3 : FindTree.CLOSED);
            Probe.due("itself with bits " + bits, p.node("d/e"), 2);
            Probe.due("itself and / with bits " + bits, p.node("d/e/"), 2);
        }
        Probe p = small();
        p.go("d");
        p.bits(".", 6);
        Probe.due("from HERE by a name", p.node("e"), FindTree.CLOSED);
        Probe.due("from HERE by .", p.node("."), FindTree.CLOSED);
        Probe.due("from HERE by ..", p.node(".."), FindTree.CLOSED);
        Probe.due("from the root", p.node("/g"), 4);
        p.bits("/", 6);
        Probe.due("the root without a step", p.node("/"), 0);
        Probe.due("the root with one", p.node("/."), FindTree.CLOSED);
        Probe.due("no way to open HERE", p.bits(".", 7), FindTree.CLOSED);
    }

    private static void dots() {
        Probe.sentence(". is itself, .. the directory that has it (the root's is the root)");
        Probe p = small();
        Probe.due(".", p.node("d/./e/."), 2);
        Probe.due("..", p.node("d/e/.."), 1);
        Probe.due("../..", p.node("d/e/../.."), 0);
        Probe.due("the root's", p.node(".."), 0);
        Probe.due("the root's, absolute", p.node("/.."), 0);
        Probe.due("far above the root", p.node("d/" + "../".repeat(30) + "g"), 4);
        Probe.due("of where a link leads", p.node("l/.."), 1);
        Probe.due("three dots are a NAME", p.node("..."), FindTree.NOENT);
        p.file("...");
        Probe.due("three dots are a NAME", p.node("..."), 7);
        p.dir("..d");
        Probe.due("so are dots and letters", p.node("..d/.."), 0);
        Probe.due("so are dots and letters", p.node("..d"), 8);
    }

    private static void noSuchName() {
        Probe.sentence("any other STEP must be a NAME in it (NOENT)");
        Probe p = small();
        for (String step : new String[] {"x", "dd", "D", "d*", "?", "abcdefghijklmno", "a".repeat(100), "\u00e9", "-"}) {
            Probe.due(step, p.node(step), FindTree.NOENT);
        }
        Probe.due("a name of another directory", p.node("d/g"), FindTree.NOENT);
        Probe.due("in an empty directory", p.dir("n"), 7);
        Probe.due("in an empty directory", p.node("n/n"), FindTree.NOENT);
        p.drop("g");
        Probe.due("a name that was dropped", p.node("g"), FindTree.NOENT);
    }

    private static void followed() {
        Probe.sentence("If that node is a link, and more STEPS or a / follow, or the last link is FOLLOWED, the rest of"
            + " the way is its TEXT (from the directory that has it, or the root), then what follows");
        Probe p = small();
        Probe.due("nothing follows", p.node("l"), 5);
        Probe.due("a step follows", p.node("l/f"), 3);
        Probe.due("a / follows", p.node("l/"), 2);
        Probe.due("FOLLOWED", p.followed("l"), 2);
        p.link("l", "ll");
        Probe.due("a link to a link", p.node("ll"), 7);
        Probe.due("a link to a link with /", p.node("ll/"), 2);
        Probe.due("a link to a link, FOLLOWED", p.followed("ll"), 2);
        p.link("/m", "d/e/m");
        Probe.due("the last one alone is not followed", p.node("ll/m"), 8);
        Probe.due("the last one FOLLOWED", p.followed("ll/m"), 4);
        p.link("nowhere", "n");
        Probe.due("to nothing", p.node("n"), 9);
        Probe.due("to nothing, FOLLOWED", p.followed("n"), FindTree.NOENT);
        Probe.due("to nothing, with /", p.node("n/"), FindTree.NOENT);
    }

    private static void textBegins() {
        Probe p = small();
        p.link("f", "d/e/s");
        p.file("f");
        p.link("/f", "d/e/t");
        p.link("../../f", "d/e/u");
        p.link(".", "d/e/v");
        p.link("/", "d/e/w");
        for (String here : new String[] {"/", "/d", "/d/e"}) {
            p.go(here);
            Probe.due("from the directory that has it, HERE " + here, p.followed("/d/e/s"), 3);
            Probe.due("from the root, HERE " + here, p.followed("/d/e/t"), 8);
            Probe.due("above the directory that has it, HERE " + here, p.followed("/d/e/u"), 8);
            Probe.due("the directory that has it, HERE " + here, p.followed("/d/e/v"), 2);
            Probe.due("the root, HERE " + here, p.followed("/d/e/w"), 0);
            Probe.due("then what follows, HERE " + here, p.followed("/d/e/w/l/s"), 3);
        }
        p.tie("/d/e/s", "/d/s");
        p.file("/d/f");
        Probe.due("a link with two ties, here", p.followed("/d/s"), 13);
        Probe.due("a link with two ties, there", p.followed("/d/e/s"), 3);
    }

    private static void ninthLink() {
        Probe.sentence("the ninth link on one way is LOOP");
        Probe p = new Probe();
        p.dir("d");
        p.link("/d", "d/x");
        p.file("d/f");
        for (int links = 0; links <= 12; links++) {
            String way = "d" + "/x".repeat(links);
            Probe.due(links + " links and a name", p.node(way + "/f"), links <= 8 ? 3 : FindTree.LOOP);
            Probe.due(links + " links and /", p.node(way + "/"), links <= 8 ? 1 : FindTree.LOOP);
            Probe.due(links + " links, FOLLOWED", p.followed(way), links <= 8 ? 1 : FindTree.LOOP);
            Probe.due(links + " links, the last not FOLLOWED", p.node(way), links == 0 ? 1 : links <= 9 ? 2
                : FindTree.LOOP);
        }
        p.link("d/nowhere", "n");
        Probe.due("the ninth leads nowhere", p.followed("d" + "/x".repeat(8) + "/../n"), FindTree.LOOP);
        Probe.due("the eighth leads nowhere", p.followed("d" + "/x".repeat(7) + "/../n"), FindTree.NOENT);
        Probe.due("eight links, then no such name", p.followed("d" + "/x".repeat(8) + "/y"), FindTree.NOENT);
        p.link("o", "o");
        Probe.due("itself", p.followed("o"), FindTree.LOOP);
        p.link("q", "p");
        p.link("p", "q");
        Probe.due("two in a ring", p.followed("p"), FindTree.LOOP);
        p.link("r/r", "r");
        Probe.due("one that grows", p.followed("r"), FindTree.LOOP);
    }

    private static void linksOfEachWay() {
        Probe p = new Probe();
        p.dir("d");
        p.link("/d", "d/x");
        p.file("d/f");
        String eight = "d" + "/x".repeat(8);
        String nine = "d" + "/x".repeat(9);
        Probe.due("both words of tie", p.tie(eight + "/f", eight + "/g"), 3);
        Probe.due("the first word's ninth", p.tie(nine + "/f", "d/h"), FindTree.LOOP);
        Probe.due("the second word's ninth", p.tie("d/f", nine + "/h"), FindTree.LOOP);
        Probe.due("a NEW PLACE", p.file(eight + "/i"), 4);
        Probe.due("a NEW PLACE's ninth", p.file(nine + "/j"), FindTree.LOOP);
        Probe.due("a link's NEW PLACE", p.link("/" + nine, eight + "/k"), 5);
        Probe.due("where it leads", p.followed("d/k"), FindTree.LOOP);
        Probe.due("a PATH and a -newer", p.find(eight + "/f -newer " + eight + " -o -type f"), eight + "/f");
        Probe.due("a -newer's ninth", p.find("d/f -newer " + nine), String.valueOf(FindTree.LOOP));
        Probe.due("a PATH's ninth", p.find(nine + "/"), String.valueOf(FindTree.LOOP));
        Probe.due("a PATH's ninth, not FOLLOWED", p.find(nine), nine);
    }

    private static void slashAtTheEnd() {
        Probe.sentence("A / at the end: the last node must be a directory (NOTDIR).");
        Probe p = small();
        p.link("g/", "s");
        p.link("d/e/", "t");
        for (String end : new String[] {"/", "//", "////"}) {
            Probe.due("a directory" + end, p.node("d" + end), 1);
            Probe.due("a file" + end, p.node("g" + end), FindTree.NOTDIR);
            Probe.due("a link to a directory" + end, p.node("l" + end), 2);
            Probe.due("a link to a file" + end, p.node("m" + end), FindTree.NOTDIR);
            Probe.due("of ." + end, p.node("." + end), 0);
            Probe.due("no such node" + end, p.node("x" + end), FindTree.NOENT);
        }
        Probe.due("in a TEXT to a file", p.followed("s"), FindTree.NOTDIR);
        Probe.due("in a TEXT to a directory", p.followed("t"), 2);
        Probe.due("in a TEXT that is not followed", p.node("s"), 7);
    }

    private static void missing() {
        Probe.sentence("A PATH without characters, and a missing word, are NOENT.");
        Probe p = new Probe();
        p.file("f");
        for (String blank : new String[] {"", " ", " ".repeat(100)}) {
            p.line(blank);
            Probe.due("make", p.tree.make(false, 0, 0), FindTree.NOENT);
            Probe.due("make a directory", p.tree.make(true, 0, 0), FindTree.NOENT);
            Probe.due("link", p.tree.link(0), FindTree.NOENT);
            Probe.due("tie", p.tree.tie(), FindTree.NOENT);
            Probe.due("drop", p.tree.drop(), FindTree.NOENT);
            Probe.due("bits", p.tree.bits(7), FindTree.NOENT);
            Probe.due("go", p.tree.go(), FindTree.NOENT);
            Probe.due("node", p.tree.node(false), FindTree.NOENT);
            Probe.due("node, FOLLOWED", p.tree.node(true), FindTree.NOENT);
            Probe.due("real", p.tree.real(), FindTree.NOENT);
        }
        p.line("f");
        Probe.due("link without a second word", p.tree.link(0), FindTree.NOENT);
        Probe.due("tie without a second word", p.tree.tie(), FindTree.NOENT);
        p.line("f  ");
        Probe.due("link with blanks for it", p.tree.link(0), FindTree.NOENT);
        Probe.due("tie with blanks for it", p.tree.tie(), FindTree.NOENT);
    }

    private static void firstFault() {
        Probe.sentence("The first that is wrong is the fault.");
        Probe p = small();
        p.dir("c");
        p.file("c/f");
        p.link("o", "o");
        p.link("c/f", "k");
        p.bits("c", 6);
        Probe.due("NOENT, then NOTDIR", p.node("x/../g/y"), FindTree.NOENT);
        Probe.due("NOTDIR, then NOENT", p.node("g/../x"), FindTree.NOTDIR);
        Probe.due("NOTDIR, then LOOP", p.node("g/../o/"), FindTree.NOTDIR);
        Probe.due("CLOSED, then NOENT", p.node("c/x/y"), FindTree.CLOSED);
        Probe.due("CLOSED, then NOTDIR", p.node("c/f/y"), FindTree.CLOSED);
        Probe.due("NOENT, then CLOSED", p.node("x/../c/f"), FindTree.NOENT);
        Probe.due("LOOP, then NOENT", p.node("o/x"), FindTree.LOOP);
        Probe.due("NOENT, then LOOP", p.node("x/o/"), FindTree.NOENT);
        Probe.due("CLOSED in a TEXT, then NOTDIR", p.node("k/"), FindTree.CLOSED);
        Probe.due("NOENT, then / at the end", p.node("d/x/"), FindTree.NOENT);
    }

    private static void text() {
        Probe.sentence("Spaces apart, a TEXT is any word of at most 40 characters (longer: LONG).");
        for (int length = 1; length <= 98; length++) {
            Probe p = new Probe();
            Probe.due("a TEXT of " + length, p.link("x".repeat(length), "l"), length <= 40 ? 1 : FindTree.LONG);
            Probe.due("nodes with a TEXT of " + length, p.tree.count(0), length <= 40 ? 2 : 1);
            if (length <= 40) {
                Probe.due("its SIZE", p.tree.tell(1, 1), length);
                Probe.due("its characters", p.tree.tell(1, 4), length);
            }
        }
        for (char c = 1; c < 256; c++) {
            if (c != ' ') {
                Probe p = new Probe();
                Probe.due("a TEXT of character " + (int) c, p.link(String.valueOf(c), "l"), 1);
                Probe.due("a TEXT with character " + (int) c, p.link("a" + c + "b", "m"), 2);
            }
        }
        Probe p = new Probe();
        String forty = "./".repeat(13) + "abcdefghijklmn";
        p.link(forty, "l");
        p.file("abcdefghijklmn");
        Probe.due("all 40 are gone along", p.followed("l"), 2);
    }
}
