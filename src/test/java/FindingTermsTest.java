/** What the terms say of FINDING, but for P (GlobTest) and the grammar (PlaceTest). */
public final class FindingTermsTest {
    public static void main(String[] args) {
        pathOrNot();
        nameOfTheFirst();
        types();
        sizes();
        ages();
        links();
        newer();
        depthAndPrune();
        numbers();
        endings();
        withoutPrint();
        pathIsGoneAlong();
        order();
        depth();
        complaints();
        printedPath();
        deepTree();
        begins();
        fullOutput();
        fullKeeps();
        Probe.end();
    }

    private static void pathOrNot() {
        Probe.sentence("THE LINE has a PATH (if its first word does not begin with - and is not ( or !, else it is .)");
        Probe p = new Probe();
        p.dir("-x");
        p.dir("d");
        p.file("d/f");
        p.go("d");
        Probe.due("no word", p.find(""), ". ./f");
        Probe.due("blanks", p.find("    "), ". ./f");
        Probe.due("- first", p.find("-name f"), "./f");
        Probe.due("( first", p.find("( -name f )"), "./f");
        Probe.due("! first", p.find("! -name f"), ".");
        Probe.due("a PATH alone", p.find(".."), ".. ../-x ../d ../d/f");
        Probe.due("a PATH and words", p.find(".. -name f"), "../d/f");
        p.go("/");
        Probe.due("a directory's NAME that begins with -", p.syntax("-x"), "word 0");
        Probe.due("a PATH that begins with -", p.syntax("-x/.."), "word 0");
        Probe.due("the same behind ./", p.find("./-x"), "./-x");
        for (String path : new String[] {"((", "(x", "(-print", "!!", "!x", "!(", ")", "))", "x", "Q", "+1", "*"}) {
            Probe.due(path + " is a PATH", p.find(path), String.valueOf(FindTree.NOENT));
        }
        Probe.due("two PATHS", p.syntax("d d"), "word 1");
        Probe.due("a PATH behind the words", p.syntax("-print d"), "word 1");
    }

    private static void nameOfTheFirst() {
        Probe.sentence("-name P the NAME by which one came to it (for the first: the last STEP of the PATH,"
            + " or / if there is none) matches P");
        Probe p = new Probe();
        p.dir("d");
        p.dir("d/e");
        p.link("d/e", "l");
        p.file("d/f");
        p.tie("d/f", "g");
        String[][] rows = {{"/", "/"}, {"//", "/"}, {"/////", "/"}, {".", "."}, {"./", "."}, {"/.", "."}, {"..", ".."},
            {"../", ".."}, {"d/..", ".."}, {"d", "d"}, {"d/", "d"}, {"/d//", "d"}, {"d/e", "e"}, {"d//e/", "e"},
            {"l", "l"}, {"l/", "l"}, {"l/.", "."}, {"d/e/../f", "f"}, {"g", "g"}};
        for (String[] row : rows) {
            for (String name : new String[] {"/", ".", "..", "d", "e", "l", "f", "g"}) {
                Probe.due("the name of " + row[0] + " is " + name, p.find(row[0] + " -prune -name " + name),
                    name.equals(row[1]) ? row[0] : "");
            }
        }
        Probe.due("without a PATH", p.find("-prune -name ."), ".");
        Probe.due("one node by two names", p.find("/ -name f -o -name g"), "/d/f /g");
        Probe.due("a link, not what it leads to", p.find("/ -name e"), "/d/e");
    }

    private static void types() {
        Probe.sentence("-type d, f or l");
        Probe p = new Probe();
        p.dir("d");
        p.file("f");
        p.link("d", "l");
        p.link("f", "m");
        Probe.due("d", p.find("/ -type d"), "/ /d");
        Probe.due("f", p.find("/ -type f"), "/f");
        Probe.due("l", p.find("/ -type l"), "/l /m");
        for (char c = 1; c < 256; c++) {
            if (c != ' ') {
                boolean good = c == 'd' || c == 'f' || c == 'l';
                Probe.due("-type " + (int) c, p.syntax("-type " + c).startsWith("answer"), good);
            }
        }
        for (String word : new String[] {"dd", "df", "dl", "lf", "d,", "directory", "-print"}) {
            Probe.due("-type " + word, p.syntax("/ -type " + word), "word 2");
        }
    }

    /** A file for each number that matters, with it as its SIZE. */
    private static Probe sized() {
        Probe p = new Probe();
        p.dir("d");
        p.file("d/a", 0, 0);
        p.file("d/b", 1, 0);
        p.file("d/c", 2, 0);
        p.file("d/e", 999998, 0);
        p.file("d/f", 999999, 0);
        return p;
    }

    private static String letters(Probe p, String line, int present) {
        return p.find(line, present).replace("d/", "").replace(" ", "");
    }

    private static void sizes() {
        Probe.sentence("with + in front (more than it) or - (less) or neither (as much)");
        Probe p = sized();
        String[][] rows = {{"0", "a"}, {"1", "b"}, {"2", "c"}, {"3", ""}, {"999998", "e"}, {"999999", "f"},
            {"+0", "bcef"}, {"+1", "cef"}, {"+2", "ef"}, {"+999997", "ef"}, {"+999998", "f"}, {"+999999", ""},
            {"-0", ""}, {"-1", "a"}, {"-2", "ab"}, {"-3", "abc"}, {"-999998", "abc"}, {"-999999", "abce"},
            {"000001", "b"}, {"+000001", "cef"}, {"-000001", "a"}, {"00", "a"}, {"10", ""}};
        for (String[] row : rows) {
            Probe.due("-size " + row[0], letters(p, "d -type f -size " + row[0], 0), row[1]);
        }
        Probe.due("a directory's SIZE", p.find("d -type d -size 0"), "d");
        p.link("d/a", "l");
        Probe.due("a link's SIZE", p.find("/ -type l -size 3"), "/l");
    }

    private static void ages() {
        Probe.sentence("-mtime N (its age, the present day less its DAY)");
        Probe p = new Probe();
        p.line("d").tree.make(true, 0, 500);
        p.file("d/a", 0, 999999);
        p.file("d/b", 0, 101);
        p.file("d/c", 0, 100);
        p.file("d/e", 0, 99);
        p.file("d/f", 0, 0);
        String[][] rows = {{"0", "c"}, {"1", "e"}, {"100", "f"}, {"+0", "ef"}, {"+1", "f"}, {"+99", "f"}, {"+100", ""},
            {"-0", "ab"}, {"-1", "abc"}, {"-2", "abce"}, {"-100", "abce"}, {"-101", "abcef"}, {"000000", "c"}};
        for (String[] row : rows) {
            Probe.due("-mtime " + row[0], letters(p, "d -type f -mtime " + row[0], 100), row[1]);
        }
        Probe.due("the greatest age", letters(p, "d -mtime 999999", 999999), "f");
        Probe.due("none is older", letters(p, "d -mtime +999999", 999999), "");
        Probe.due("the least age", letters(p, "d -type f -mtime -0", 0), "abce");
        Probe.due("the present day 0", letters(p, "d -type f -mtime 0", 0), "f");
        Probe.due("an age below 0 is not as much", letters(p, "d -type f -mtime 1", 100), "e");
        Probe.due("a directory's", p.find("d -type d -mtime 7", 507), "d");
    }

    private static void links() {
        Probe.sentence("-links N, its TIES");
        Probe p = new Probe();
        p.dir("d");
        p.file("d/a");
        p.file("d/b");
        p.link("x", "d/l");
        p.tie("d/b", "d/c");
        for (int i = 0; i < 8; i++) {
            p.tie("d/a", "a" + i);
        }
        Probe.due("1", p.find("d -links 1"), "d d/l");
        Probe.due("2", p.find("d -links 2"), "d/b d/c");
        Probe.due("9", p.find("d -links 9"), "d/a");
        Probe.due("+9", p.find("d -links +9"), "");
        Probe.due("+8", p.find("d -links +8"), "d/a");
        Probe.due("-1", p.find("d -links -1"), "");
        Probe.due("-2", p.find("d -links -2"), "d d/l");
        Probe.due("0", p.find("d -links 0"), "");
        Probe.due("the root's", p.find("/ -prune -links 1"), "/");
        p.drop("d/c");
        Probe.due("after a drop", p.find("d -links 1"), "d d/b d/l");
    }

    private static void newer() {
        Probe.sentence("-newer PATH (FOLLOWED): its DAY is later than that node's");
        Probe p = new Probe();
        p.line("d").tree.make(true, 0, 10);
        p.file("d/a", 0, 9);
        p.file("d/b", 0, 10);
        p.file("d/c", 0, 11);
        p.file("d/z", 0, 999999);
        p.line("b d/l").tree.link(500);
        Probe.due("than 10", p.find("d -newer d/b"), "d/c d/l d/z");
        Probe.due("than a directory", p.find("d -newer d"), "d/c d/l d/z");
        Probe.due("than 9", p.find("d -newer d/a"), "d d/b d/c d/l d/z");
        Probe.due("a link is FOLLOWED", p.find("d -newer d/l"), "d/c d/l d/z");
        Probe.due("than the last day", p.find("d -newer d/z"), "");
        Probe.due("than day 0", p.find("d -newer /"), "d d/a d/b d/c d/l d/z");
        Probe.due("not later than itself", p.find("d/b -newer d/b"), "");
        Probe.due("from HERE, not from the PATH", p.find("d -newer b"), "-2");
        Probe.due("/ at the end", p.find("d -newer d/b/"), "-3");
        Probe.due("the PATH may begin with -", p.find("d -newer -print"), "-2");
        Probe.due("and be (", p.find("d -newer ("), "-2");
    }

    private static void depthAndPrune() {
        Probe.sentence("-prune true, and what is below is left out; -print true, and its path is printed; -depth true.");
        Probe p = new Probe();
        for (String path : new String[] {"a", "a/x", "a/x/y", "b", "b/x", "c", "c/x"}) {
            p.dir(path);
        }
        Probe.due("one branch", p.find("/ -name a -prune -o -print"), "/ /b /b/x /c /c/x");
        Probe.due("directories behind it are not left out", p.find("/ -name a -prune"), "/a");
        Probe.due("two branches", p.find("/ -name [ac] -prune -o -print"), "/ /b /b/x");
        Probe.due("further down", p.find("/ -name x -prune -o -print"), "/ /a /b /c");
        Probe.due("the first", p.find("/ -prune"), "/");
        Probe.due("true", p.find("a/x/y -prune -prune -print"), "a/x/y");
        Probe.due("not, but left out", p.find("/ ! -prune -o -print"), "/");
        Probe.due("not reached", p.find("a -name b -prune -o -print"), "a a/x a/x/y");
        Probe.due("behind a true OR", p.find("a -print -o -prune"), "a a/x a/x/y");
        Probe.due("-print is true", p.find("b/x -print -print ! -print -o -print"), "b/x b/x b/x b/x");
        Probe.due("-depth is true", p.find("b/x -depth -print"), "b/x");
        Probe.due("not -depth", p.find("b/x ! -depth -print"), "");
    }

    private static void numbers() {
        Probe.sentence("N is a number of 1 to 6 digits, with + in front (more than it) or - (less) or neither");
        Probe p = new Probe();
        for (String test : new String[] {"-size ", "-mtime ", "-links "}) {
            for (int digits = 0; digits <= 12; digits++) {
                for (String sign : new String[] {"", "+", "-"}) {
                    String word = sign + "9".repeat(digits);
                    boolean good = digits >= 1 && digits <= 6;
                    Probe.due(test + word, p.syntax(test + word).startsWith("answer"), good);
                    Probe.due(test + word + " at", p.tree.place(), good ? -1 : 1);
                }
            }
            for (String word : new String[] {"++1", "+-1", "-+1", "--1", "1+", "1-", "0x1", "a", "1a", "a1", "1.0", ".1",
                "1,0", "/", ":", "1/", "1:", "\u00b2", "1k", "*", "-print", "(", "="}) {
                Probe.due(test + word, p.syntax(". " + test + word), "word 2");
            }
        }
    }

    private static void endings() {
        Probe.sentence("An AND ends with the first part that is false, an OR with the first that is true.");
        Probe p = new Probe();
        p.file("a");
        String yes = "-type f ";
        String no = "-type d ";
        String[][] rows = {{yes + "-print", "a"}, {no + "-print", ""}, {yes + yes + "-print", "a"},
            {yes + no + "-print", ""}, {no + yes + "-print", ""}, {"-print " + no + "-print", "a"},
            {"-print " + yes + "-print", "a a"}, {yes + "-o -print", ""}, {no + "-o -print", "a"},
            {no + "-o " + no + "-o -print", "a"}, {no + "-o " + yes + "-o -print", ""},
            {yes + "-o " + no + "-o -print", ""}, {"-print -o -print -o -print", "a"},
            {"! -print -o ! -print -o ! -print", "a a a"}, {"! " + no + "-print", "a"}, {"! " + yes + "-print", ""},
            {"( " + yes + "-o -print ) -print", "a"}, {"( " + no + "-o -print ) -print", "a a"},
            {no + "( -print -o -print ) -o -print", "a"}, {yes + "-o ( -print -print )", ""},
            {"! ( -print -o -print ) -o -print", "a a"}, {"! ( " + yes + "-a " + no + ") -print", "a"}};
        for (String[] row : rows) {
            Probe.due(row[0], p.find("a " + row[0]), row[1]);
        }
    }

    private static void withoutPrint() {
        Probe.sentence("Without words it is -print; if it has no -print, it is printed if it is true.");
        Probe p = new Probe();
        p.file("a");
        Probe.due("without words", p.find("a"), "a");
        Probe.due("without anything", p.find(""), ". ./a");
        Probe.due("true", p.find("a -type f"), "a");
        Probe.due("false", p.find("a -type d"), "");
        Probe.due("false, then true", p.find("a -type d -o -type f"), "a");
        Probe.due("true twice is printed once", p.find("a -type f -type f"), "a");
        Probe.due("a -print that is not reached", p.find("a -type f -o -print"), "");
        Probe.due("a -print that is not reached", p.find("a -type d -print -o -type f"), "");
        Probe.due("a -print within ( )", p.find("a -type f -o ( -print )"), "");
        Probe.due("-print as a P is none", p.find("a -type f -o -name -print"), "a");
        Probe.due("-print as a PATH is none", p.file("-print"), 2);
        Probe.due("-print as a PATH is none", p.find("a -type f -o -newer -print"), "a");
        Probe.due("of nothing more after a -print", p.find("a -print -o -newer a -print"), "a");
        Probe.due("a find before with -print", p.find("a -type f"), "a");
        Probe.due("without words after -depth", p.find("-depth"), "./-print ./a .");
        Probe.due("without words after -depth", p.find(""), ". ./-print ./a");
    }

    private static void pathIsGoneAlong() {
        Probe.sentence("The PATH is gone along (its last link not FOLLOWED).");
        Probe p = new Probe();
        p.dir("d");
        p.file("d/f");
        p.link("d", "l");
        p.link("l", "m");
        p.link("o", "o");
        p.link("x", "n");
        Probe.due("a link", p.find("l"), "l");
        Probe.due("a link's type", p.find("l -type l"), "l");
        Probe.due("with /", p.find("l/"), "l/ l/f");
        Probe.due("a link to a link", p.find("m"), "m");
        Probe.due("a link to a link with /", p.find("m/"), "m/ m/f");
        Probe.due("on the way", p.find("m/f"), "m/f");
        Probe.due("to nothing", p.find("n"), "n");
        Probe.due("to nothing with /", p.find("n/"), "-2");
        Probe.due("a ring", p.find("o"), "o");
        Probe.due("a ring with /", p.find("o/"), "-5");
        Probe.due("a file with /", p.find("d/f/"), "-3");
        Probe.due("no such node", p.find("d/x"), "-2");
        p.bits("d", 6);
        Probe.due("closed", p.find("d/f"), "-4");
        Probe.due("closed, itself", p.find("d"), "d");
        p.bits("/", 6);
        Probe.due("HERE is closed, and the PATH is .", p.find(""), "-4");
        Probe.due("HERE is closed, and the PATH is . of -print", p.find("-print"), "-4");
        Probe.due("no step in the closed one", p.find("/"), "/");
    }

    private static void order() {
        Probe.sentence("From there all nodes are asked, a directory before what is in it, by NAMES in the order of their"
            + " characters' codes, links not FOLLOWED");
        Probe p = new Probe();
        for (String name : "ab aa a0 a. a- a _ 9 0 .b .a -a".split(" ")) {
            p.file(name);
        }
        Probe.due("by codes", p.find("/"), "/ /-a /.a /.b /0 /9 /_ /a /a- /a. /a0 /aa /ab");
        Probe q = new Probe();
        q.dir("b");
        q.file("b/z");
        q.file("b/a");
        q.file("a");
        q.file("c");
        q.file("b-");
        q.link("/", "b/l");
        q.link("b", "d");
        Probe.due("a directory first, then what is in it", q.find("/"), "/ /a /b /b/a /b/l /b/z /b- /c /d");
        q.drop("b/a");
        q.file("b/zz");
        q.file("b/0");
        Probe.due("after changes", q.find("b"), "b b/0 b/l b/z b/zz");
    }

    private static void depth() {
        Probe.sentence("if -depth is in the EXPRESSION, behind what is in it, and -prune leaves nothing out");
        Probe p = new Probe();
        for (String path : new String[] {"a", "a/x", "a/x/y", "b", "b/x"}) {
            p.dir(path);
        }
        p.file("a/f");
        String all = "/a/f /a/x/y /a/x /a /b/x /b /";
        Probe.due("-depth", p.find("/ -depth"), all);
        Probe.due("-depth at the end", p.find("/ -print -depth"), all);
        Probe.due("-depth that is not reached", p.find("/ -print -o -depth"), all);
        Probe.due("-depth within ! and ( )", p.find("/ -print -o ! ( -depth )"), all);
        Probe.due("-prune", p.find("/ -depth -prune"), all);
        Probe.due("-prune before -depth", p.find("/ -prune -depth"), all);
        Probe.due("-prune of a name", p.find("/ -name a -prune -depth -o -print"), all.replace("/a ", ""));
        Probe.due("-depth as a P", p.find("b -print -o -name -depth"), "b b/x");
        Probe.due("none in the next find", p.find("b"), "b b/x");
        Probe.due("none in the next find with -prune", p.find("b -prune"), "b");
    }

    private static void complaints() {
        Probe.sentence("What is in a directory is left out, and a COMPLAINT is made, if it may not be read,"
            + " or not gone through.");
        for (int bits = 0; bits < 8; bits++) {
            boolean open = (bits & 5) == 5;
            for (String word : new String[] {"", " -depth"}) {
                Probe p = new Probe();
                p.dir("d");
                p.dir("d/e");
                p.file("d/e/f");
                p.dir("g");
                p.file("g/f");
                p.bits("g", bits);
                p.bits("d/e", bits);
                Probe.due("below with" + word + " " + bits, p.find("/ -type f" + word), open ? "/d/e/f /g/f" : "");
                Probe.due("complaints with" + word + " " + bits, p.tree.count(1), open ? 0 : 2);
                Probe.due("itself with" + word + " " + bits, p.find("/ -name [eg]" + word), "/d/e /g");
                p.bits("/", bits);
                Probe.due("the root with" + word + " " + bits, p.find("/ -type d" + word).contains("d"), open);
                Probe.due("the root's complaint with " + bits, p.tree.count(1), open ? 0 : 1);
            }
        }
        Probe p = new Probe();
        p.dir("d");
        p.bits("d", 3);
        p.find("d");
        Probe.due("an empty one makes one too", p.tree.count(1), 1);
        p.find("d -prune");
        Probe.due("what -prune left out makes none", p.tree.count(1), 0);
        p.find("d -prune -depth");
        Probe.due("with -depth it makes one", p.tree.count(1), 1);
        p.link("d", "l");
        p.find("l");
        Probe.due("a link makes none", p.tree.count(1), 0);
        p.find("/");
        Probe.due("one for each directory, not for each way", p.tree.count(1), 1);
    }

    private static void printedPath() {
        Probe.sentence("The path that is printed is the PATH as told, then / (if that has none at its end) and the NAMES"
            + " with / between; each on a line of its own, with a character 10 behind.");
        Probe p = new Probe();
        p.dir("d");
        p.dir("d/e");
        p.file("d/e/f");
        String[][] rows = {{"d", "d/"}, {"d/", "d/"}, {"d//", "d//"}, {"./d", "./d/"}, {"d/e/..", "d/e/../"},
            {"//d", "//d/"}, {".//d/./", ".//d/./"}, {"/../d", "/../d/"}};
        for (String[] row : rows) {
            p.line(row[0]).tree.find(0);
            Probe.due("PATH " + row[0], p.output(), row[0] + "\n" + row[1] + "e\n" + row[1] + "e/f\n");
        }
        p.line("/").tree.find(0);
        Probe.due("PATH /", p.output(), "/\n/d\n/d/e\n/d/e/f\n");
        p.line("//").tree.find(0);
        Probe.due("PATH //", p.output(), "//\n//d\n//d/e\n//d/e/f\n");
        p.line("-name f").tree.find(0);
        Probe.due("no PATH", p.output(), "./d/e/f\n");
        p.line("d/e/f").tree.find(0);
        Probe.due("a file", p.output(), "d/e/f\n");
        p.line("d -name x").tree.find(0);
        Probe.due("nothing", p.output(), "");
    }

    /** The deepest tree and the longest PATH that there can be. */
    private static void deepTree() {
        Probe p = new Probe();
        for (int i = 0; i < 46; i++) {
            p.dir("abcdefghijklmn");
            p.go("abcdefghijklmn");
        }
        Probe.due("the deepest", p.file("nmlkjihgfedcba"), 47);
        p.go("/");
        String path = "./".repeat(45) + ".";
        String deepest = path + "/abcdefghijklmn".repeat(46) + "/nmlkjihgfedcba";
        Probe.due("it is found", p.find(path + " -type f"), deepest);
        Probe.due("it is found in depth", p.find("." + " -depth -type f"), deepest.substring(90));
        Probe.due("by its name", p.find("/ -name nmlkjihgfedcba"), deepest.substring(91));
        p.find(". -type d ! -name *");
        Probe.due("no complaints", p.tree.count(1), 0);
    }

    private static void begins() {
        Probe.sentence("When it begins, THE OUTPUT is empty, and there are no COMPLAINTS");
        Probe p = new Probe();
        p.dir("d");
        p.bits("d", 0);
        for (int i = 0; i < 3; i++) {
            Probe.due("once more", p.find("/"), "/ /d");
            Probe.due("complaints once more", p.tree.count(1), 1);
        }
        p.find("/ -prune -name x");
        Probe.due("nothing printed", p.tree.count(2), 0);
        Probe.due("nothing complained of", p.tree.count(1), 0);
        p.real("d");
        Probe.due("after real", p.find("/ -prune"), "/");
    }

    private static void fullOutput() {
        Probe.sentence("THE OUTPUT has at most 1500 characters; what would be more is the fault FULL");
        String path = "./".repeat(49) + ".";
        // 100 for the PATH, 12 of 107, and 99 + 1 + 6 + 1 + 1 and the file's NAME.
        for (int length = 6; length <= 10; length++) {
            Probe p = Probe.wide(length);
            p.line(path);
            int total = 100 + 12 * 107 + 108 + length;
            Probe.due(total + " characters", p.tree.find(0), total <= 1500 ? 14 : FindTree.FULL);
            Probe.due("are then", p.tree.count(2), total <= 1500 ? total : 1384);
            Probe.due("the last", p.tree.output(p.tree.count(2) - 1), (char) 10);
            Probe.due("behind it", p.tree.output(p.tree.count(2)), ' ');
            Probe.due("place()", p.tree.place(), -1);
        }
        Probe p = Probe.wide(7);
        Probe.due("1500 with a / at the end of the PATH", p.line(path + "/").tree.find(0), 14);
        Probe.due("are then", p.tree.count(2), 1500);
        p = Probe.wide(8);
        Probe.due("1501 with a / at the end of the PATH", p.line(path + "/").tree.find(0), FindTree.FULL);
        Probe.due("are then", p.tree.count(2), 1385);
        Probe.due("the next find begins anew", p.find("zzzzzz -type d"), "zzzzzz");
    }

    /** HERE with twelve NAMES of six characters, the first and the one told closed directories, the others files. */
    private static Probe closedAt(int told) {
        Probe p = new Probe();
        for (int i = 1; i <= 12; i++) {
            String name = "bbbbb" + (char) ('a' + i);
            if (i == 1 || i == told) {
                p.dir(name);
                p.bits(name, 0);
            } else {
                p.file(name);
            }
        }
        return p;
    }

    private static void fullKeeps() {
        Probe.sentence("it has what was printed before, and the COMPLAINTS are those made before");
        String path = "./".repeat(39) + ".";
        // Two lines of 80 for the PATH, two of 87 for each NAME: the second one of the eighth NAME is too much.
        for (int told = 2; told <= 12; told++) {
            Probe p = closedAt(told);
            Probe.due("FULL", p.find(path + " -print -print"), String.valueOf(FindTree.FULL));
            Probe.due("printed before", p.tree.count(2), 160 + 15 * 87);
            Probe.due("the last line", p.output().endsWith("\n" + path + "/bbbbbi\n"), true);
            Probe.due("complaints before, the second at " + told, p.tree.count(1), told < 8 ? 2 : 1);
            // In depth the PATH comes last, and a COMPLAINT is made before the directory's lines.
            Probe.due("FULL in depth", p.find(path + " -print -print -depth"), String.valueOf(FindTree.FULL));
            Probe.due("printed before in depth", p.tree.count(2), 17 * 87);
            Probe.due("complaints before in depth, the second at " + told, p.tree.count(1), told <= 9 ? 2 : 1);
        }
    }
}
