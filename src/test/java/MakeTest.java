/** Promise 4, and what the terms say of a NEW PLACE. */
public final class MakeTest {
    public static void main(String[] args) {
        ordinary();
        names();
        faults();
        fullDirectory();
        fullTree();
        bounds();
        Probe.end();
    }

    private static void ordinary() {
        Probe.sentence("A directory (SIZE 0), or a file, at the NEW PLACE that is THE LINE's first word: its number,"
            + " or a fault.");
        Probe p = new Probe();
        Probe.due("a directory", p.line("d").tree.make(true, 77, 5), 1);
        Probe.due("its kind", p.tree.tell(1, 0), 0);
        Probe.due("its size", p.tree.tell(1, 1), 0);
        Probe.due("its day", p.tree.tell(1, 2), 5);
        Probe.due("its ties", p.tree.tell(1, 3), 1);
        Probe.due("its bits", p.tree.tell(1, 5), 7);
        Probe.due("a file with / at its end", p.file("/d/f//", 999999, 0), 2);
        Probe.due("its kind", p.tree.tell(2, 0), 1);
        Probe.due("its size", p.tree.tell(2, 1), 999999);
        Probe.due("its bits", p.tree.tell(2, 5), 0);
        Probe.due("names of d", p.tree.tell(1, 4), 1);
        Probe.due("go", p.go("d"), 1);
        Probe.due("at HERE", p.file("g"), 3);
        Probe.due("from the root", p.file("/g"), 4);
        Probe.due("above", p.file("../h"), 5);
        p.link("/d", "/l");
        Probe.due("through a link", p.file("/l/i"), 7);
        Probe.due("where the link leads", p.node("/d/i"), 7);
        Probe.due("the least number that is free", p.drop("g"), 3);
        Probe.due("the least number that is free", p.file("j"), 3);
    }

    private static void names() {
        Probe p = new Probe();
        String[] good = {"a", "z", "0", "9", "-", "_", "...", ".a", "a.", "..a", "abcdefghijklmn"};
        for (int i = 0; i < good.length; i++) {
            Probe.due("make " + good[i], p.file(good[i]), i + 1);
        }
        String[] bad = {".", "..", "/", "///", "./", "../", "abcdefghijklmno", "A", "a*", "a/B", "{", "`", ":", ",",
            "a\u00e9", "none/Q"};
        for (String name : bad) {
            Probe.due("make " + name, p.file(name), FindTree.BADNAME);
        }
    }

    private static void faults() {
        Probe p = new Probe();
        p.dir("d");
        p.file("f");
        p.link("nowhere", "l");
        p.link("f", "lf");
        p.link("o", "o");
        Probe.due("no word", p.file(""), FindTree.NOENT);
        Probe.due("no such directory", p.file("x/y"), FindTree.NOENT);
        Probe.due("through a file", p.file("f/y"), FindTree.NOTDIR);
        Probe.due("through a link to a file", p.file("lf/y"), FindTree.NOTDIR);
        Probe.due("through a link to nothing", p.file("l/y"), FindTree.NOENT);
        Probe.due("through a ring of links", p.file("o/y"), FindTree.LOOP);
        Probe.due("a file there", p.file("d/../f"), FindTree.EXISTS);
        Probe.due("a link there, which is not followed", p.file("l"), FindTree.EXISTS);
        Probe.due("with / at its end", p.dir("l/"), FindTree.EXISTS);
        Probe.due("nothing was made", p.tree.count(0), 6);
        for (int bits = 0; bits < 8; bits++) {
            p.bits("d", bits);
            Probe.due("make with bits " + bits, p.file("d/b" + bits) >= 0, (bits & 3) == 3);
        }
        p.bits("d", 5);
        Probe.due("closed before there", p.file("d/b3"), FindTree.CLOSED);
        p.bits("d", 7);
        p.go("d");
        p.bits("/d", 6);
        Probe.due("HERE can't be gone through", p.file("b9"), FindTree.CLOSED);
    }

    private static void fullDirectory() {
        Probe p = new Probe();
        p.dir("d");
        for (int i = 0; i < 12; i++) {
            Probe.due("name " + i, p.file("d/f" + i), i + 2);
        }
        Probe.due("the thirteenth", p.file("d/g"), FindTree.FULL);
        Probe.due("there already", p.file("d/f11"), FindTree.EXISTS);
        Probe.due("one is dropped", p.drop("d/f5"), 7);
        Probe.due("and one made", p.file("d/g"), 7);
    }

    private static void fullTree() {
        Probe p = new Probe();
        for (int i = 1; i < 48; i++) {
            String path = i <= 4 ? "d" + i : "d" + (i % 4 + 1) + "/f" + i;
            Probe.due("make " + path, p.dir(path), i);
        }
        Probe.due("nodes", p.tree.count(0), 48);
        Probe.due("the 49th", p.file("x"), FindTree.FULL);
        Probe.due("the 49th as a link", p.link("a", "x"), FindTree.FULL);
        Probe.due("there already", p.file("d1"), FindTree.EXISTS);
        p.drop("d2/f9");
        Probe.due("the least that is free", p.file("x"), 9);
        Probe.due("full again", p.file("y"), FindTree.FULL);
        Probe.due("a tie is no new node", p.tie("x", "y"), 9);
    }

    private static void bounds() {
        Probe.sentence("IllegalArgument: size or day is below 0, or above 999,999.");
        Probe p = new Probe();
        p.line("f");
        int[][] wrong = {{-1, 0}, {0, -1}, {1000000, 0}, {0, 1000000}, {Integer.MIN_VALUE, 0},
            {0, Integer.MAX_VALUE}};
        for (int[] pair : wrong) {
            for (boolean directory : new boolean[] {true, false}) {
                Probe.dueThrow("make " + pair[0] + " " + pair[1], IllegalArgumentException.class,
                    () -> p.tree.make(directory, pair[0], pair[1]));
            }
        }
        for (String line : new String[] {"", "Q", "x/y", "/"}) {
            p.line(line);
            Probe.dueThrow("before a fault", IllegalArgumentException.class, () -> p.tree.make(true, -1, 0));
            Probe.dueThrow("before a fault", IllegalArgumentException.class, () -> p.tree.make(false, 0, 1000000));
        }
        Probe.due("nothing was made", p.tree.count(0), 1);
        Probe.due("the greatest", p.file("f", 999999, 999999), 1);
        Probe.due("the least", p.file("g", 0, 0), 2);
        Probe.due("the greatest of a directory", p.line("d").tree.make(true, 999999, 999999), 3);
        int[][] due = {{999999, 999999}, {0, 0}, {0, 999999}};
        for (int node = 1; node <= 3; node++) {
            Probe.due("the size of " + node, p.tree.tell(node, 1), due[node - 1][0]);
            Probe.due("the day of " + node, p.tree.tell(node, 2), due[node - 1][1]);
        }
    }
}
