/** Promise 12, and what the terms say of FINDING. */
public final class FindTest {
    public static void main(String[] args) {
        paths();
        order();
        logic();
        tests();
        newer();
        firstName();
        pruning();
        complaints();
        faultsInOrder();
        full();
        bounds();
        Probe.end();
    }

    /** Of the tree: d with e (f, g), h; l to d; x. */
    private static Probe small() {
        Probe p = new Probe();
        p.line("d").tree.make(true, 0, 10);
        p.line("d/e").tree.make(true, 0, 20);
        p.file("d/e/f", 100, 30);
        p.file("d/e/g", 200, 40);
        p.file("d/h", 300, 50);
        p.line("d l").tree.link(60);
        p.tie("d/h", "x");
        return p;
    }

    private static void paths() {
        Probe.sentence("FINDING: how many lines were printed; or a fault");
        Probe p = small();
        Probe.due("no line", p.line("d -name x").tree.find(0), 0);
        Probe.due("one line", p.line("x").tree.find(0), 1);
        Probe.due("three lines of one node", p.line("x -print -print -print").tree.find(0), 3);
        Probe.due("eight lines", p.line("").tree.find(0), 8);
        String below = "%1$s %1$s/e %1$s/e/f %1$s/e/g %1$s/h";
        Probe.due("d", p.find("d"), String.format(below, "d"));
        Probe.due("/d", p.find("/d"), String.format(below, "/d"));
        Probe.due("d/", p.find("d/"), "d/ d/e d/e/f d/e/g d/h");
        Probe.due("d//", p.find("d//"), "d// d//e d//e/f d//e/g d//h");
        Probe.due("d/e/..", p.find("d/e/.."), String.format(below, "d/e/.."));
        Probe.due("nothing", p.find("-print"), ". ./d ./d/e ./d/e/f ./d/e/g ./d/h ./l ./x");
        Probe.due("/", p.find("/"), "/ /d /d/e /d/e/f /d/e/g /d/h /l /x");
        Probe.due("a link", p.find("l"), "l");
        Probe.due("a link with /", p.find("l/"), "l/ l/e l/e/f l/e/g l/h");
        Probe.due("a file", p.find("x"), "x");
        Probe.due("a file with /", p.find("x/"), "-3");
        Probe.due("no such node", p.find("y"), "-2");
        Probe.due("( first", p.find("( -name x )"), "./x");
        Probe.due("! first", p.find("! -type d"), "./d/e/f ./d/e/g ./d/h ./l ./x");
        String whole = "./".repeat(49) + "/x";
        Probe.due("a path of 100 characters", p.find(whole), whole);
        whole = "/".repeat(99) + "d";
        Probe.due("a path of 100 characters with names", p.find(whole), String.format(below, whole));
        Probe.due(") is a path", p.find(")"), "-2");
        p.go("d/e");
        Probe.due("HERE", p.find(""), ". ./f ./g");
        Probe.due("above", p.find(".. -name h"), "../h");
        p.bits("/d/e", 6);
        Probe.due("HERE can't be gone through", p.find(""), "-4");
        Probe.due("the line stays", p.tree.erase(), 0);
    }

    private static void order() {
        Probe p = new Probe();
        String[] names = {"b", "a", "ab", "a.b", "a-b", "a_b", "a0", "z", "_", "9", ".x", "-"};
        for (String name : names) {
            p.file(name);
        }
        Probe.due("by codes", p.find("/"), "/ /- /.x /9 /_ /a /a-b /a.b /a0 /a_b /ab /b /z");
        p.drop("a");
        p.drop("b");
        p.dir("a");
        p.file("a/q");
        Probe.due("after drops", p.find("/ -type d -o -name [a-z]*"), "/ /a /a/q /a-b /a.b /a0 /a_b /ab /z");
        Probe.due("depth", p.find("/ -depth ( -type d -o -name [qz] )"), "/a/q /a /z /");
    }

    private static void logic() {
        Probe p = new Probe();
        p.file("a");
        String both = "a -print -print";
        Probe.due("and without a word", p.find(both), "a a");
        Probe.due("-a", p.find("a -print -a -print"), "a a");
        Probe.due("an OR ends with the first that is true", p.find("a -print -o -print"), "a");
        Probe.due("an OR goes on", p.find("a -type d -o -print"), "a");
        Probe.due("an AND ends with the first that is false", p.find("a -type d -print"), "");
        Probe.due("and before or", p.find("a -type f -o -type f -print"), "");
        Probe.due("and before or", p.find("a -type d -print -o -type f -print"), "a");
        Probe.due("parts", p.find("a ( -type f -o -type f ) -print"), "a");
        Probe.due("not", p.find("a ! -type d -print"), "a");
        Probe.due("not not", p.find("a ! ! -type d"), "");
        Probe.due("not binds before and", p.find("a ! -type d -type d"), "");
        Probe.due("not of parts", p.find("a ! ( -type d -o -type l ) -print"), "a");
        Probe.due("-print within not", p.find("a ! -print"), "a");
        Probe.due("then false", p.find("a ! -print -print"), "a");
        Probe.due("then or", p.find("a ! -print -o -print"), "a a");
        Probe.due("parts left out", p.find("a -type d ( -print -o -print ) -o -type f"), "");
        Probe.due("parts left out", p.find("a ( -type f -o ( -print ) ) ( -print )"), "a");
        Probe.due("not before parts left out", p.find("a -type d ! ( -print ) -o ! ( -type d ) -print"), "a");
        Probe.due("no -print: printed if true", p.find("a -type f"), "a");
        Probe.due("once", p.find("a -type f -o -type f"), "a");
        Probe.due("-name -print is no -print", p.find("a ! -name -print"), "a");
        Probe.due("-depth is true", p.find("a ! -depth"), "");
        Probe.due("-prune is true", p.find("a -prune"), "a");
        Probe.due("deep not", p.find("! ".repeat(45) + "-depth"), "");
        Probe.due("deep not, even", p.find("a " + "! ".repeat(44) + "-depth"), "a");
        Probe.due("deep parts", p.find("a " + "( ".repeat(22) + "-print" + " )".repeat(22)), "a");
    }

    private static void tests() {
        Probe p = small();
        Probe.due("-type d", p.find("d -type d"), "d d/e");
        Probe.due("-type f", p.find("d -type f"), "d/e/f d/e/g d/h");
        Probe.due("-type l", p.find("/ -type l"), "/l");
        Probe.due("-size", p.find("d -size 200"), "d/e/g");
        Probe.due("-size +", p.find("d -size +200"), "d/h");
        Probe.due("-size -", p.find("d -size -200 -type f"), "d/e/f");
        Probe.due("a link's size", p.find("/ -size 1"), "/l");
        Probe.due("zeros in front", p.find("d -size 000200"), "d/e/g");
        Probe.due("-mtime", p.find("d -mtime 60", 100), "d/e/g");
        Probe.due("-mtime +", p.find("d -mtime +70", 100), "d d/e");
        Probe.due("-mtime -", p.find("d -mtime -60", 100), "d/h");
        Probe.due("a day to come", p.find("d -mtime -0", 30), "d/e/g d/h");
        Probe.due("the greatest day", p.find("d -mtime 999959", 999999), "d/e/g");
        Probe.due("-links", p.find("/ -links 2"), "/d/h /x");
        Probe.due("-links +", p.find("/ -links +1"), "/d/h /x");
        Probe.due("-links -", p.find("/ -links -1"), "");
        Probe.due("the root's links", p.find("/ -links 1 -name /"), "/");
    }

    private static void newer() {
        Probe p = small();
        Probe.due("later", p.find("d -newer d/e/f"), "d/e/g d/h");
        Probe.due("a link, followed", p.find("/ -newer l"), "/d/e /d/e/f /d/e/g /d/h /l /x");
        Probe.due("than the root", p.find("/ -newer / -type d"), "/d /d/e");
        Probe.due("two", p.find("d -newer d ! -newer d/e/f"), "d/e d/e/f");
        Probe.due("from HERE", p.go("d/e"), 2);
        Probe.due("from HERE", p.find("/ -newer g -type f"), "/d/h /x");
    }

    private static void firstName() {
        Probe p = small();
        Probe.due("of /", p.find("/ -name /"), "/");
        Probe.due("of //", p.find("// -name /"), "//");
        Probe.due("of .", p.find("-name ."), ".");
        Probe.due("of ..", p.find(".. -name .."), "..");
        Probe.due("of d/.", p.find("d/. -name ."), "d/.");
        Probe.due("of a path", p.find("d/e -name e"), "d/e");
        Probe.due("with / at its end", p.find("d/e// -name e"), "d/e//");
        Probe.due("of a link", p.find("l/ -name l"), "l/");
        Probe.due("not where it leads", p.find("l/ -name d"), "");
        Probe.due("behind all in depth", p.find("d/e// -depth -name [ef]"), "d/e//f d/e//");
        Probe.due("by which one came", p.find("/ -name x"), "/x");
    }

    private static void pruning() {
        Probe p = small();
        Probe.due("prune", p.find("d -name e -prune -o -print"), "d d/h");
        Probe.due("pruned and printed", p.find("d -name e -prune -o -name h"), "d/e d/h");
        Probe.due("not reached", p.find("d -type f -prune"), "d/e/f d/e/g d/h");
        Probe.due("the first", p.find("d -prune"), "d");
        Probe.due("within not", p.find("d ! -prune"), "");
        Probe.due("depth", p.find("d -depth -prune"), "d/e/f d/e/g d/e d/h d");
        Probe.due("depth anywhere", p.find("d -prune -o -depth"), "d/e/f d/e/g d/e d/h d");
        Probe.due("-depth as a P", p.find("d -prune -o -name -depth"), "d");
    }

    private static void complaints() {
        for (int bits = 0; bits < 8; bits++) {
            Probe p = small();
            p.bits("d/e", bits);
            boolean open = (bits & 5) == 5;
            Probe.due("bits " + bits, p.find("d"), open ? "d d/e d/e/f d/e/g d/h" : "d d/e d/h");
            Probe.due("complaints of bits " + bits, p.tree.count(1), open ? 0 : 1);
        }
        Probe p = small();
        p.drop("d/e/f");
        p.drop("d/e/g");
        p.bits("d/e", 3);
        p.find("d");
        Probe.due("of an empty one too", p.tree.count(1), 1);
        p.find("d -name e -prune");
        Probe.due("none of one that is left out by -prune", p.tree.count(1), 0);
        p.find("d -depth -name e -prune");
        Probe.due("but in depth", p.tree.count(1), 1);
        p.find("d -name nothing");
        Probe.due("also if it is not printed", p.tree.count(1), 1);
        p.bits("d", 3);
        Probe.due("the first", p.find("d"), "d");
        Probe.due("the first's complaint", p.tree.count(1), 1);
    }

    private static void faultsInOrder() {
        Probe.sentence("SYNTAX, with the word (from 0 on; as many as there are if one is missing) at which THE LINE can't go"
            + " on, before all others; that of a PATH of -newer, in their order, before that of the PATH; FULL.");
        Probe p = small();
        p.bits("d/e", 0);
        Probe.due("SYNTAX before all", p.find("y -newer y -x"), "-12");
        Probe.due("-newer before the path", p.find("y -newer x/"), "-3");
        Probe.due("the first -newer", p.find("y -newer x/ -newer y -newer d/e/f"), "-3");
        Probe.due("the second -newer", p.find("y -newer x -newer d/e/f"), "-4");
        Probe.due("a -newer that is not reached", p.find("x -print -o -newer y"), "-2");
        Probe.due("the path", p.find("d/e/f -newer x"), "-4");
        Probe.due("a -newer that is followed", p.link("nowhere", "n"), 7);
        Probe.due("a -newer that is followed", p.find("n -newer n"), "-2");
    }

    private static void full() {
        Probe p = new Probe();
        p.dir("abcdefghijklmn");
        for (int i = 0; i < 11; i++) {
            p.file("abcdefghijklmn/f" + (char) ('a' + i));
        }
        // Eleven lines of 20, one of 17, one of 2: 239 each.
        String line = "-print -print -print -print -print -print";
        Probe.due("1434 characters", p.find(line).length() + 1, 1434);
        p.file("x");
        // x adds six lines of 4: 1458; then a closed directory behind it adds six of 4: 1482.
        p.dir("y");
        p.bits("y", 0);
        Probe.due("1482 characters", p.find(line).length() + 1, 1482);
        p.dir("zz");
        p.bits("zz", 0);
        // Lines of zz have 5: three go, the fourth would be the 1502nd character.
        Probe.due("too much", p.find(line), "-8");
        Probe.due("what was printed before", p.tree.count(2), 1497);
        Probe.due("complaints made before", p.tree.count(1), 1);
        p.file("zabcdefghijkl");
        // In depth . comes last: 1470 are before zabcdefghijkl, whose lines have 16.
        Probe.due("too much in depth", p.find("-depth " + line), "-8");
        Probe.due("a shorter line later is not printed", p.tree.count(2), 1486);
        Probe.due("nor are more complaints made", p.tree.count(1), 1);
        exactly();
    }

    /** 100 lines of 15 characters fill the output, and one character more is too much. */
    private static void exactly() {
        Probe p = new Probe();
        p.file("abcdefghijklmn");
        String five = " -print".repeat(5);
        for (int i = 0; i < 3; i++) {
            p.dir("d" + i);
            for (int k = 0; k < 12; k++) {
                p.tie("abcdefghijklmn", "d" + i + "/abcdefgh" + (char) ('a' + k));
            }
        }
        // 36 lines of 12 for d0 to d2: ./d0/abcdefghX is 14 characters and the line's end.
        Probe.due("36 times 15", p.find(". -links +1 -name ?????????"), p.output().replace('\n', ' ').strip());
        Probe.due("36 times 15", p.tree.count(2), 540);
        Probe.due("twice", p.find(". -name ????????? -print -print").length() + 1, 1080);
        Probe.due("thrice is too much", p.find(". -name ????????? -print -print -print"), "-8");
        Probe.due("but it fills the output", p.tree.count(2), 1500);
        p.drop("d2/abcdefgha");
        p.drop("d2/abcdefghb");
        p.drop("d2/abcdefghc");
        p.drop("d2/abcdefghd");
        for (int k = 4; k < 11; k++) {
            p.drop("d2/abcdefgh" + (char) ('a' + k));
        }
        for (int k = 0; k < 5; k++) {
            p.drop("d1/abcdefgh" + (char) ('a' + k));
        }
        // 20 lines are left: five times 20 is 100.
        Probe.due("exactly 1500", p.find(". -name ?????????" + five).length() + 1, 1500);
        Probe.due("one more", p.find(". -name ?????????" + five + " -o -name d2 -print"), "-8");
        Probe.due("one more", p.tree.count(2) < 1500, true);
    }

    private static void bounds() {
        Probe.sentence("IllegalArgument: the present day is out of bounds.");
        Probe p = small();
        p.find("d");
        String before = p.output();
        p.line("-x");
        for (int present : new int[] {-1, 1000000, Integer.MIN_VALUE, Integer.MAX_VALUE}) {
            Probe.dueThrow("find " + present, IllegalArgumentException.class, () -> p.tree.find(present));
        }
        Probe.due("the output stays", p.output(), before);
        Probe.due("the greatest", p.find("x", 999999), "x");
        Probe.due("the least", p.find("x", 0), "x");
        for (String line : new String[] {"", "nowhere", "-x", ". -newer nowhere"}) {
            p.line(line);
            Probe.dueThrow("before a fault", IllegalArgumentException.class, () -> p.tree.find(-1));
            Probe.dueThrow("before a fault", IllegalArgumentException.class, () -> p.tree.find(1000000));
        }
    }
}
