/** An object under test, with lines told as texts, and a count of the answers that were not as due. */
final class Probe {
    private static int wrong = 0;

    final FindTree tree = new FindTree();

    /** A call that may throw. */
    interface Call {
        void run();
    }

    static void due(String what, Object got, Object want) {
        if (!want.equals(got)) {
            wrong++;
            System.out.println(what + " answered " + got + ", due is " + want);
        }
    }

    static void dueThrow(String what, Class<? extends Exception> want, Call call) {
        Object got = "nothing";
        try {
            call.run();
        } catch (RuntimeException e) {
            got = e.getClass();
        }
        due(what + " throws", got, want);
    }

    static void end() {
        if (wrong != 0) {
            System.exit(1);
        }
    }

    /** Four characters of a text as a number, 0 where it has none. */
    static int four(String text, int from) {
        int number = 0;
        for (int i = from; i < from + 4; i++) {
            number = number << 8 | (i < text.length() ? text.charAt(i) : 0);
        }
        return number;
    }

    int type(String text) {
        int length = 0;
        for (int i = 0; i < text.length() || i == 0; i += 20) {
            length = tree.type(four(text, i), four(text, i + 4), four(text, i + 8), four(text, i + 12),
                four(text, i + 16));
        }
        return length;
    }

    Probe line(String text) {
        tree.erase();
        type(text);
        return this;
    }

    int dir(String path) {
        return line(path).tree.make(true, 0, 0);
    }

    int file(String path) {
        return line(path).tree.make(false, 0, 0);
    }

    int file(String path, int size, int day) {
        return line(path).tree.make(false, size, day);
    }

    int link(String text, String path) {
        return line(text + " " + path).tree.link(0);
    }

    int tie(String path, String to) {
        return line(path + " " + to).tree.tie();
    }

    int drop(String path) {
        return line(path).tree.drop();
    }

    int bits(String path, int to) {
        return line(path).tree.bits(to);
    }

    int go(String path) {
        return line(path).tree.go();
    }

    int node(String path) {
        return line(path).tree.node(false);
    }

    int followed(String path) {
        return line(path).tree.node(true);
    }

    String output() {
        StringBuilder text = new StringBuilder();
        for (int k = 0; k < tree.count(2); k++) {
            text.append(tree.output(k));
        }
        return text.toString();
    }

    /** The path that real() writes, or its fault. */
    String real(String path) {
        int answer = line(path).tree.real();
        if (answer >= 0) {
            due("characters of real " + path, answer, tree.count(2));
        }
        return answer < 0 ? String.valueOf(answer) : output();
    }

    /** What find(present) prints with a blank for each line's end, or its fault. */
    String find(String line, int present) {
        int answer = line(line).tree.find(present);
        if (answer >= 0) {
            due("lines of find " + line, answer, (int) output().chars().filter(c -> c == 10).count());
        }
        return answer < 0 ? String.valueOf(answer) : output().replace('\n', ' ').strip();
    }

    String find(String line) {
        return find(line, 0);
    }

    /** SYNTAX with its word, or what else find answers. */
    String syntax(String line) {
        int answer = line(line).tree.find(0);
        return answer == FindTree.SYNTAX ? "word " + tree.place() : "answer " + answer;
    }
}
