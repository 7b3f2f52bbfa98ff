/** What the document says of how long an object is used. */
public final class CallsTermsTest {
    private static final int CALLS = 512;

    public static void main(String[] args) {
        Probe.sentence("An object is used for at most 512 calls after it has been made");
        makesAndDrops();
        ties();
        finds();
        refusedCalls();
        Probe.end();
    }

    private static void makesAndDrops() {
        FindTree x = new FindTree();
        x.type('d' << 24, 0, 0, 0, 0);
        x.tell(0, 0);
        for (int call = 2; call < CALLS; call += 2) {
            Probe.due("make as call " + call, x.make(call % 4 == 0, 1, 1), 1);
            Probe.due("drop as call " + (call + 1), x.drop(), 1);
        }
    }

    /** A tie, then THE LINE anew: three calls a tie. */
    private static void ties() {
        FindTree x = new FindTree();
        x.type('f' << 24, 0, 0, 0, 0);
        x.make(false, 0, 0);
        int calls = 2;
        int made = 0;
        for (char c = 'a'; c <= 'k'; c++) {
            x.erase();
            x.type(Probe.four("d" + c, 0), 0, 0, 0, 0);
            made = x.make(true, 0, 0);
            calls += 3;
        }
        Probe.due("directories", made, 12);
        int ties = 1;
        for (; calls + 3 <= CALLS && ties <= 11 * 12; calls += 3) {
            x.erase();
            String place = "d" + (char) ('a' + ties % 11) + "/" + (char) ('a' + ties / 11);
            x.type(Probe.four("f " + place, 0), Probe.four("f " + place, 4), 0, 0, 0);
            Probe.due("tie " + place, x.tie(), 1);
            ties++;
        }
        Probe.due("ties", x.tell(1, 3), ties);
    }

    private static void finds() {
        FindTree x = new FindTree();
        x.type('d' << 24, 0, 0, 0, 0);
        x.make(true, 0, 0);
        for (int call = 2; call < CALLS; call++) {
            Probe.due("find as call " + call, x.find(call), 1);
        }
    }

    private static void refusedCalls() {
        FindTree x = new FindTree();
        for (int call = 1; call < CALLS; call++) {
            Probe.dueThrow("tell as call " + call, IndexOutOfBoundsException.class, () -> x.tell(1, 0));
        }
        Probe.due("the last call", x.count(0), 1);
    }
}
