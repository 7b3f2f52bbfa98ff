/**
 * An object under test, with lines told as texts, and a count of the answers that were not as due.
 * It makes more than the 512 calls for which the document promises answers, since reading THE OUTPUT takes a call
 * for each character; the class goes on answering, and CallsTermsTest keeps to the 512.
 */
final class Probe {
    private static int wrong = 0;
    private static String sentence = "";

    final FindTree tree = new FindTree();

    /** A call that may throw. */
    interface Call {
        void run();
    }

    /** The sentence of the document that the checks behind this hold. */
    static void sentence(String text) {
        sentence = text;
    }

    static void due(String what, Object got, Object want) {
        if (!want.equals(got)) {
            wrong++;
            System.out.println(what + " answered " + got + ", due is " + want
                + (sentence.isEmpty() ? "" : ", by: " + sentence));
        }
    }

    static void dueThrow(String what, Class<? extends Exception> want, Call call) {
        Object got = "nothing";
        try {
            call.run();
        } catch (RuntimeException e) {
            got = e.getClass();
        }
        due(what + " throws", got, want);
    }

    static void end() {
        if (wrong != 0) {
            System.exit(1);
        }
    }

    /** A root with eleven files and the directory zzzzzz, in it one file with a NAME of so many characters. */
    static Probe wide(int length) {
        Probe p = new Probe();
        for (char c = 'a'; c <= 'k'; c++) {
            p.file("bbbbb" + c);
        }
        p.dir("zzzzzz");
        p.file("zzzzzz/" + "c".repeat(length));
        return p;
    }

    /** Four characters of a text as a number, 0 where it has none. */
    static int four(String text, int from) {
        int number = 0;
        for (int i = from; i < from + 4; i++) {
            number = number << 8 | (i < text.length() ? text.charAt(i) : 0);
        }
        return number;
    }

    int type(String text) {
        int length = 0;
        for (int i = 0; i < text.length() || i == 0; i += 20) {
            length = tree.type(four(text, i), four(text, i + 4), four(text, i + 8), four(text, i + 12),
                four(text, i + 16));
        }
        return length;
    }

    Probe line(String text) {
        tree.erase();
        type(text);
        return this;
    }

    int dir(String path) {
        return line(path).tree.make(true, 0, 0);
    }

    int file(String path) {
        return line(path).tree.make(false, 0, 0);
    }

    int file(String path, int size, int day) {
        return line(path).tree.make(false, size, day);
    }

    int link(String text, String path) {
        return line(text + " " + path).tree.link(0);
    }

    int tie(String path, String to) {
        return line(path + " " + to).tree.tie();
    }

    int drop(String path) {
        return line(path).tree.drop();
    }

    int bits(String path, int to) {
        return line(path).tree.bits(to);
    }

    int go(String path) {
        return line(path).tree.go();
    }

    int node(String path) {
        return line(path).tree.node(false);
    }

    int followed(String path) {
        return line(path).tree.node(true);
    }

    String output() {
        StringBuilder text = new StringBuilder();
        for (int k = 0; k < tree.count(2); k++) {
            text.append(tree.output(k));
        }
        return text.toString();
    }

    /** The path that real() writes, or its fault. */
    String real(String path) {
        int answer = line(path).tree.real();
        if (answer >= 0) {
            due("characters of real " + path, answer, tree.count(2));
        }
        return answer < 0 ? String.valueOf(answer) : output();
    }

    /** What find(present) prints with a blank for each line's end, or its fault. */
    String find(String line, int present) {
        int answer = line(line).tree.find(present);
        if (answer >= 0) {
            due("lines of find " + line, answer, (int) output().chars().filter(c -> c == 10).count());
        }
        return answer < 0 ? String.valueOf(answer) : output().replace('\n', ' ').strip();
    }

    String find(String line) {
        return find(line, 0);
    }

    /** SYNTAX with its word, or what else find answers. */
    String syntax(String line) {
        int answer = line(line).tree.find(0);
        return answer == FindTree.SYNTAX ? "word " + tree.place() : "answer " + answer;
    }

    /** The number of HERE, which must be open. */
    int here() {
        return node(".");
    }

    /** All that can be told of the nodes. */
    String nodes() {
        StringBuilder all = new StringBuilder();
        for (int node = 0; node < 48; node++) {
            all.append(node).append(':').append(told(node)).append(' ');
        }
        return all.toString();
    }

    /** All that can be told without changing it, but HERE. */
    String state() {
        StringBuilder all = new StringBuilder(nodes());
        for (int what = 0; what < 3; what++) {
            all.append(tree.count(what)).append(' ');
        }
        all.append(tree.place()).append(' ').append(tree.type(0, 0, 0, 0, 0));
        return all.append(' ').append(output()).toString();
    }

    private String told(int node) {
        try {
            StringBuilder all = new StringBuilder();
            for (int what = 0; what < 6; what++) {
                all.append(tree.tell(node, what)).append(',');
            }
            return all.toString();
        } catch (IndexOutOfBoundsException e) {
            return "none";
        }
    }
}
