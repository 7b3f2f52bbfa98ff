/** Promise 2. */
public final class TypeTest {
    public static void main(String[] args) {
        twentyCharacters();
        atTheLimit();
        ordinary();
        Probe.end();
    }

    private static int[] numbers(String text) {
        int[] numbers = new int[5];
        for (int k = 0; k < 5; k++) {
            numbers[k] = Probe.four(text, 4 * k);
        }
        return numbers;
    }

    private static int type(FindTree tree, int[] n) {
        return tree.type(n[0], n[1], n[2], n[3], n[4]);
    }

    private static void twentyCharacters() {
        Probe.sentence("Up to twenty characters more: four in each number, the highest byte first; a byte 0 is none.");
        Probe p = new Probe();
        String whole = "abcdefghij/klmnopqrs";
        p.dir("abcdefghij");
        p.tree.erase();
        Probe.due("twenty characters", type(p.tree, numbers(whole)), 20);
        Probe.due("in their order", p.tree.make(false, 0, 0), 2);
        Probe.due("in their order", p.node(whole), 2);
        for (int at = 0; at < 20; at++) {
            Probe q = new Probe();
            Probe.due("one byte at " + at, type(q.tree, numbers("\0".repeat(at) + "a")), 1);
            Probe.due("one byte at " + at, q.tree.make(false, 0, 0), 1);
            Probe.due("one byte at " + at, q.node("a"), 1);
            Probe r = new Probe();
            String text = "abcdefghij/klmnopqrs".substring(0, at) + "\0" + whole.substring(at + 1);
            Probe.due("a byte 0 at " + at, type(r.tree, numbers(text)), 19);
            r.type(" x");
            r.tree.link(0);
            Probe.due("without the byte 0 at " + at, r.tree.tell(1, 4), 19);
        }
        for (int code = 0; code < 256; code++) {
            Probe q = new Probe();
            Probe.due("code " + code + " as all bytes", q.tree.type(code * 0x01010101, code, code << 8, code << 16,
                code << 24), code == 0 ? 0 : 8);
            Probe.due("and once more", q.tree.type(0, 0, 0, 0, code << 24), code == 0 ? 0 : 9);
            Probe.due("are erased", q.tree.erase(), code == 0 ? 0 : 9);
        }
    }

    /** With each room that is left, each of the twenty bytes, in each of which the refused character may stand. */
    private static void atTheLimit() {
        Probe.sentence("How many THE LINE has. IllegalState: it would have more than 100.");
        for (int at = 0; at < 20; at++) {
            for (int code : new int[] {1, 'a', 128, 255}) {
                FindTree full = new FindTree();
                for (int i = 0; i < 5; i++) {
                    type(full, numbers("b".repeat(20)));
                }
                int[] one = numbers("\0".repeat(at) + (char) code);
                Probe.dueThrow("code " + code + " at " + at, IllegalStateException.class, () -> type(full, one));
                Probe.due("the line stays", full.type(0, 0, 0, 0, 0), 100);
                full.erase();
                for (int i = 0; i < 4; i++) {
                    type(full, numbers("b".repeat(20)));
                }
                type(full, numbers("b".repeat(19)));
                Probe.due("code " + code + " at " + at + " as the hundredth", type(full, one), 100);
            }
        }
    }

    private static void ordinary() {
        Probe p = new Probe();
        Probe.due("type nothing", p.tree.type(0, 0, 0, 0, 0), 0);
        Probe.due("type one byte of each number", p.tree.type('a', 'b' << 8, 'c' << 16, 'd' << 24, 0), 4);
        Probe.due("the bytes' order", p.tree.make(false, 0, 0), 1);
        Probe.due("the bytes' order", p.node("abcd"), 1);
        p.tree.erase();
        p.tree.type('x' << 24 | 'y', 0, 0, 0, 'z');
        Probe.due("a byte 0 between is none", p.tree.make(false, 0, 0), 2);
        Probe.due("a byte 0 between is none", p.node("xyz"), 2);
        p.tree.erase();
        Probe.due("bytes above 127", p.tree.type(-1, 0x80808080, 0, 0, 0), 8);
        Probe.due("bytes above 127 are no name", p.tree.make(false, 0, 0), FindTree.BADNAME);

        p.tree.erase();
        String hundred = "a".repeat(100);
        Probe.due("a hundred characters", p.type(hundred), 100);
        Probe.due("nothing more still goes", p.tree.type(0, 0, 0, 0, 0), 100);
        Probe.dueThrow("the 101st", IllegalStateException.class, () -> p.tree.type(0, 0, 0, 0, 'a'));
        Probe.due("the line stays", p.tree.erase(), 100);
        p.type(hundred.substring(0, 99));
        Probe.dueThrow("two more than 99", IllegalStateException.class, () -> p.tree.type('a', 0, 'a', 0, 0));
        Probe.due("none of the two was added", p.tree.type(0, 0, 'a', 0, 0), 100);

        Probe.due("blanks around words", p.file("   one   two  "), 3);
        Probe.due("the first word", p.node("one"), 3);
        Probe.due("blanks alone are no word", p.node("     "), FindTree.NOENT);
        Probe.due("a tab is no blank", p.file("a\tb"), FindTree.BADNAME);
    }
}
