/** What the terms say of NODES, NAMES, TIES, BITS and HERE. */
public final class NodesTermsTest {
    private static final String NAME_CHARACTERS = "abcdefghijklmnopqrstuvwxyz0123456789._-";

    public static void main(String[] args) {
        numbers();
        nothingIsLeft();
        nameCharacters();
        nameLengths();
        dotsAlone();
        ties();
        twelveNames();
        bits();
        here();
        gone();
        Probe.end();
    }

    private static void numbers() {
        Probe.sentence("NODES are directories, files and links, numbered 0 .. 47 (the least that is free);"
            + " 0 is the root, a directory.");
        Probe p = new Probe();
        Probe.due("the root's kind", p.tree.tell(0, 0), 0);
        for (int i = 1; i <= 4; i++) {
            Probe.due("directory " + i, p.dir("d" + i), i);
        }
        for (int i = 5; i < 48; i++) {
            String path = "d" + (i % 4 + 1) + "/n" + i;
            int number = i % 3 == 0 ? p.dir(path) : i % 3 == 1 ? p.file(path) : p.link("x", path);
            Probe.due("number " + i, number, i);
        }
        Probe.due("all", p.tree.count(0), 48);
        Probe.due("the last one's kind", p.tree.tell(47, 0), 2);
        Probe.dueThrow("a node 48", IndexOutOfBoundsException.class, () -> p.tree.tell(48, 0));
        Probe.dueThrow("a node -1", IndexOutOfBoundsException.class, () -> p.tree.tell(-1, 0));
        p.drop("d3/n30");
        p.drop("d4/n7");
        p.drop("d4/n47");
        p.drop("d4/n19");
        Probe.due("the least of four", p.link("y", "a"), 7);
        Probe.due("the least of three", p.dir("b"), 19);
        Probe.due("the least of two", p.file("c"), 30);
        Probe.due("the last", p.file("d"), 47);
        Probe.due("none is free", p.file("e"), FindTree.FULL);
    }

    private static void nothingIsLeft() {
        Probe p = new Probe();
        p.line("d").tree.make(true, 0, 9);
        p.bits("d", 0);
        p.drop("d");
        p.file("f", 5, 6);
        p.tie("f", "g");
        int[] file = {1, 5, 6, 2, 0, 0};
        p.drop("f");
        p.drop("g");
        p.dir("d");
        int[] directory = {0, 0, 0, 1, 0, 7};
        for (int what = 0; what < 6; what++) {
            Probe.due("a directory with a number that was free, " + what, p.tree.tell(1, what), directory[what]);
        }
        Probe.due("it has no names", p.node("d/x"), FindTree.NOENT);
        p.drop("d");
        p.file("f", 5, 6);
        p.tie("f", "g");
        for (int what = 0; what < 6; what++) {
            Probe.due("a file with a number that was free, " + what, p.tree.tell(1, what), file[what]);
        }
    }

    private static void nameCharacters() {
        Probe.sentence("TIES, how often a directory has it by a NAME: 1 to 14 characters a .. z, 0 .. 9, dot, low line,"
            + " minus, but not . or .. alone.");
        for (char c = 1; c < 256; c++) {
            if (c != ' ' && c != '/') {
                boolean good = NAME_CHARACTERS.indexOf(c) >= 0;
                Probe p = new Probe();
                Probe.due("character " + (int) c + " alone", p.file(String.valueOf(c)),
                    good && c != '.' ? 1 : FindTree.BADNAME);
                Probe.due("character " + (int) c + " first", new Probe().file(c + "a"), good ? 1 : FindTree.BADNAME);
                Probe.due("character " + (int) c + " last", new Probe().file("a" + c), good ? 1 : FindTree.BADNAME);
            }
        }
    }

    private static void nameLengths() {
        for (int length = 1; length <= 100; length++) {
            String name = "abcdefghij".repeat(10).substring(0, length);
            Probe p = new Probe();
            Probe.due(length + " characters", p.file(name), length <= 14 ? 1 : FindTree.BADNAME);
            Probe.due("the way to " + length, p.node(name), length <= 14 ? 1 : FindTree.NOENT);
        }
        Probe p = new Probe();
        Probe.due("14 dots", p.file(".".repeat(14)), 1);
        Probe.due("15 dots", p.file(".".repeat(15)), FindTree.BADNAME);
        p.file("abcdefghijklmn");
        Probe.due("only 13 of a name's 14", p.node("abcdefghijklm"), FindTree.NOENT);
        Probe.due("one more than a name's 14", p.node("abcdefghijklmno"), FindTree.NOENT);
        Probe.due("another last character", p.file("abcdefghijklm0"), 3);
    }

    private static void dotsAlone() {
        Probe p = new Probe();
        p.dir("d");
        for (String bad : new String[] {".", "..", "d/.", "d/..", "./", "../"}) {
            Probe.due("make " + bad, p.file(bad), FindTree.BADNAME);
            Probe.due("link " + bad, p.link("a", bad), FindTree.BADNAME);
        }
        String[] good = {"...", "....", ".a", "a.", "..a", "a..", ".-", "-", "_"};
        for (int i = 0; i < good.length; i++) {
            Probe.due("make " + good[i], p.file(good[i]), i + 2);
            Probe.due("the way to " + good[i], p.node(good[i]), i + 2);
        }
    }

    private static void ties() {
        Probe p = new Probe();
        p.file("f");
        for (int i = 0; i < 11; i++) {
            p.dir("d" + i);
        }
        int ties = 1;
        for (int i = 0; i < 33; i++) {
            ties++;
            Probe.due("tie", p.tie("f", "d" + i % 11 + "/t" + i), 1);
            Probe.due("ties", p.tree.tell(1, 3), ties);
        }
        Probe.due("no node more", p.tree.count(0), 13);
        for (int i = 0; i < 33; i++) {
            ties--;
            p.drop("d" + i % 11 + "/t" + i);
            Probe.due("ties after drop", p.tree.tell(1, 3), ties);
        }
        Probe.due("a directory's", p.tree.tell(2, 3), 1);
        Probe.due("the root's", p.tree.tell(0, 3), 1);
    }

    private static void twelveNames() {
        Probe.sentence("A directory has at most 12 of them");
        for (String front : new String[] {"", "d/"}) {
            Probe p = new Probe();
            p.dir("d");
            p.file("d/f");
            int directory = front.isEmpty() ? 0 : 1;
            for (int i = 1; i < 12; i++) {
                String path = front + "n" + i;
                int number = switch (i % 4) {
                    case 0 -> p.dir(path);
                    case 1 -> p.file(path);
                    case 2 -> p.link("x", path);
                    default -> p.tie("/d/f", path);
                };
                Probe.due("name " + i + " in " + directory, number >= 0, true);
                Probe.due("names after " + i, p.tree.tell(directory, 4), i + 1);
            }
            Probe.due("a directory as the thirteenth", p.dir(front + "z"), FindTree.FULL);
            Probe.due("a file as the thirteenth", p.file(front + "z"), FindTree.FULL);
            Probe.due("a link as the thirteenth", p.link("x", front + "z"), FindTree.FULL);
            Probe.due("a tie as the thirteenth", p.tie("/d/f", front + "z"), FindTree.FULL);
            Probe.due("names", p.tree.tell(directory, 4), 12);
            Probe.due("the twelfth is there", p.node(front + "n11") >= 0, true);
            p.drop(front + "n3");
            Probe.due("names after drop", p.tree.tell(directory, 4), 11);
            Probe.due("a twelfth again", p.tie("/d/f", front + "z"), 2);
            Probe.due("and no more", p.tie("/d/f", front + "zz"), FindTree.FULL);
        }
    }

    private static void bits() {
        Probe.sentence("and BITS: 4 it may be read, 2 changed, 1 gone through (7 at first).");
        Probe first = new Probe();
        first.dir("d");
        Probe.due("a directory's at first", first.tree.tell(1, 5), 7);
        Probe.due("the root's at first", first.tree.tell(0, 5), 7);
        for (int bits = 0; bits < 8; bits++) {
            Probe p = new Probe();
            p.dir("d");
            p.file("d/f");
            p.bits("d", bits);
            boolean read = (bits & 4) != 0;
            boolean changed = (bits & 2) != 0;
            boolean through = (bits & 1) != 0;
            Probe.due("gone through with " + bits, p.node("d/f"), through ? 2 : FindTree.CLOSED);
            Probe.due("gone to with " + bits, p.go("d"), through ? 1 : FindTree.CLOSED);
            p.go("/");
            Probe.due("made with " + bits, p.file("d/g"), through && changed ? 3 : FindTree.CLOSED);
            Probe.due("linked with " + bits, p.link("x", "d/l"), through && changed ? 4 : FindTree.CLOSED);
            Probe.due("tied with " + bits, p.tie("d/f", "d/t"), through && changed ? 2 : FindTree.CLOSED);
            Probe.due("dropped with " + bits, p.drop("d/f"), through && changed ? 2 : FindTree.CLOSED);
            p.find("d");
            Probe.due("read with " + bits, p.tree.count(1), read && through ? 0 : 1);
        }
    }

    private static void here() {
        Probe.sentence("HERE is a directory, the root at first.");
        Probe p = new Probe();
        Probe.due("at first", p.here(), 0);
        p.file("f");
        p.link("f", "l");
        Probe.due("a file", p.go("f"), FindTree.NOTDIR);
        Probe.due("a link to a file", p.go("l"), FindTree.NOTDIR);
        Probe.due("still the root", p.here(), 0);
    }

    private static void gone() {
        Probe.sentence("A node other than the root without TIES is gone.");
        Probe p = new Probe();
        p.dir("d");
        p.file("f");
        p.link("f", "l");
        p.tie("l", "m");
        Probe.due("a link with a tie less", p.drop("l"), 3);
        Probe.due("is still there", p.tree.tell(3, 3), 1);
        Probe.due("nodes", p.tree.count(0), 4);
        Probe.due("its last tie", p.drop("m"), 3);
        Probe.due("a file's last tie", p.drop("f"), 2);
        Probe.due("a directory's tie", p.drop("d"), 1);
        for (int node = 1; node <= 3; node++) {
            int number = node;
            Probe.dueThrow("tell " + node, IndexOutOfBoundsException.class, () -> p.tree.tell(number, 3));
        }
        Probe.due("nodes", p.tree.count(0), 1);
        Probe.due("the root stays", p.drop("/"), FindTree.KIND);
        Probe.due("with its tie", p.tree.tell(0, 3), 1);
    }
}
