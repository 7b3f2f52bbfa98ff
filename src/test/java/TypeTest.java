/** Promise 2. */
public final class TypeTest {
    public static void main(String[] args) {
        Probe p = new Probe();
        Probe.due("type nothing", p.tree.type(0, 0, 0, 0, 0), 0);
        Probe.due("type one byte of each number", p.tree.type('a', 'b' << 8, 'c' << 16, 'd' << 24, 0), 4);
        Probe.due("the bytes' order", p.tree.make(false, 0, 0), 1);
        Probe.due("the bytes' order", p.node("abcd"), 1);
        p.tree.erase();
        p.tree.type('x' << 24 | 'y', 0, 0, 0, 'z');
        Probe.due("a byte 0 between is none", p.tree.make(false, 0, 0), 2);
        Probe.due("a byte 0 between is none", p.node("xyz"), 2);
        p.tree.erase();
        Probe.due("bytes above 127", p.tree.type(-1, 0x80808080, 0, 0, 0), 8);
        Probe.due("bytes above 127 are no name", p.tree.make(false, 0, 0), FindTree.BADNAME);

        p.tree.erase();
        String hundred = "a".repeat(100);
        Probe.due("a hundred characters", p.type(hundred), 100);
        Probe.due("nothing more still goes", p.tree.type(0, 0, 0, 0, 0), 100);
        Probe.dueThrow("the 101st", IllegalStateException.class, () -> p.tree.type(0, 0, 0, 0, 'a'));
        Probe.due("the line stays", p.tree.erase(), 100);
        p.type(hundred.substring(0, 99));
        Probe.dueThrow("two more than 99", IllegalStateException.class, () -> p.tree.type('a', 0, 'a', 0, 0));
        Probe.due("none of the two was added", p.tree.type(0, 0, 'a', 0, 0), 100);

        Probe.due("blanks around words", p.file("   one   two  "), 3);
        Probe.due("the first word", p.node("one"), 3);
        Probe.due("blanks alone are no word", p.node("     "), FindTree.NOENT);
        Probe.due("a tab is no blank", p.file("a\tb"), FindTree.BADNAME);
        Probe.end();
    }
}
