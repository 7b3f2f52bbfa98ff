/** What the terms say of THE LINE and its WORDS. */
public final class LineTermsTest {
    public static void main(String[] args) {
        atMostAHundred();
        lastCharacter();
        stays();
        blanks();
        manyWords();
        Probe.end();
    }

    private static void atMostAHundred() {
        Probe.sentence("THE LINE is what was typed, at most 100 characters");
        for (int length = 80; length <= 100; length++) {
            for (int more = 0; more <= 20; more++) {
                Probe p = new Probe();
                p.type("a".repeat(length));
                String text = "b".repeat(more);
                if (length + more <= 100) {
                    Probe.due(length + " and " + more, p.type(text), length + more);
                } else {
                    Probe.dueThrow(length + " and " + more, IllegalStateException.class, () -> p.type(text));
                    Probe.due("the line after " + more + " were refused", p.tree.erase(), length);
                }
            }
        }
    }

    private static void lastCharacter() {
        Probe p = new Probe();
        String front = "./".repeat(43);
        Probe.due("a name that ends with the hundredth character", p.file(front + "abcdefghijklmn"), 1);
        Probe.due("a path that ends there", p.node(front + "abcdefghijklmn"), 1);
        Probe.due("by its name alone", p.node("abcdefghijklmn"), 1);
        Probe.due("a word that ends there", p.find("-name " + "*".repeat(80) + "abcdefghijklmn"), "./abcdefghijklmn");
        Probe.due("a tie that ends there", p.tie("abcdefghijklmn", "./".repeat(36) + "nmlkjihgfedcb"), 1);
        Probe.due("by the other name", p.node("nmlkjihgfedcb"), 1);
    }

    private static void stays() {
        Probe.sentence("(it stays till erase())");
        Probe p = new Probe();
        p.line("d e");
        p.tree.make(true, 0, 0);
        p.tree.link(0);
        p.tree.tie();
        p.tree.bits(7);
        p.tree.node(true);
        p.tree.real();
        p.tree.find(0);
        p.tree.tell(0, 0);
        p.tree.count(0);
        p.tree.output(0);
        p.tree.place();
        p.tree.go();
        p.tree.drop();
        Probe.due("its length after every call", p.tree.type(0, 0, 0, 0, 0), 3);
        p.tree.make(true, 0, 0);
        Probe.due("its words after every call", p.node("/d/d"), 3);
        p.line("x");
        p.tree.node(true);
        p.tree.bits(1);
        p.type("/y");
        Probe.due("what is typed comes behind it", p.tree.erase(), 3);
        Probe.due("empty after erase", p.tree.erase(), 0);
    }

    private static void blanks() {
        Probe.sentence("WORDS are parted by one or more blanks.");
        for (int count = 1; count < 90; count++) {
            Probe p = new Probe();
            p.file("f");
            String blanks = " ".repeat(count);
            Probe.due(count + " blanks between", p.tie("f" + blanks.substring(1), "g"), 1);
            Probe.due(count + " blanks in front", p.node(blanks + "g"), 1);
            Probe.due(count + " blanks behind", p.node("g" + blanks), 1);
            Probe.due(count + " blanks alone", p.node(blanks), FindTree.NOENT);
            Probe.due(count + " blanks before a PATH", p.find(blanks + "g"), "g");
            Probe.due(count + " blanks before a test", p.find("g" + blanks + "-type f"), "g");
        }
        Probe p = new Probe();
        Probe.due("blanks typed apart", p.type(" a "), 3);
        p.type(" b");
        Probe.due("blanks typed apart", p.tree.link(0), 1);
        Probe.due("the second word", p.node("b"), 1);
        p.tree.erase();
        p.type("c");
        p.type("d");
        Probe.due("typed apart without a blank", p.tree.make(false, 0, 0), 2);
        Probe.due("one word", p.node("cd"), 2);
        for (char c : new char[] {9, 10, 11, 12, 13, 31, 33, 127, 160, 255}) {
            Probe.due("character " + (int) c + " is no blank", p.file("x" + c + "y"), FindTree.BADNAME);
        }
    }

    private static void manyWords() {
        Probe p = new Probe();
        Probe.due("fifty words", p.syntax("! ".repeat(49) + "!"), "word 50");
        Probe.due("the fiftieth word", p.syntax("! ".repeat(49) + "x"), "word 49");
        Probe.due("blanks behind the last word", p.syntax("! ".repeat(20)), "word 20");
        Probe.due("blanks before the first word", p.syntax("    -x"), "word 0");
        Probe.due("two blanks are no word", p.syntax(".  -print  x"), "word 2");
        Probe.due("the third word means nothing", p.file("f g h"), 1);
        Probe.due("the third word means nothing", p.tie("f", "g h"), 1);
        Probe.due("names", p.tree.tell(0, 4), 2);
    }
}
