import java.util.Random;

/** Long runs of calls, from fixed seeds, answered by the class and by the model. */
public final class ModelTest {
    private static final int RUNS = 400;
    private static final int CALLS = 512;
    private static final String[] NAMES = {"a", "b", "c", "d", "ab", "a.b", "l", "m", "x-1", "_", "abcdefghijklmn",
        "p", "q", "r", "0", "9", ".z", "a_", "a-", "abcdefghijklm0"};
    private static final String[] ODD = {".", "..", "", "Q", "abcdefghijklmno", "...", "*", "\u00ff", "(", "!", "-a"};
    private static final String[] WORDS = {"-print", "-prune", "-depth", "-name", "-type", "-size", "-mtime",
        "-links", "-newer", "-o", "-a", "!", "(", ")", "d", "f", "l", "1", "+1", "-1", "x", ".", "*", "-newer"};
    private static final String[] PIECES = {"*", "?", "[", "]", "!", "-", "a", "b", "c", "d", "l", ".", "x", "a-c",
        "[a-c]", "[!a]", "_"};

    private static final int[] LINES_SEEN = {0};
    private static final int[] FAULTS_SEEN = {0};

    private final Random random;
    private final Probe probe = new Probe();
    private final FindTree tree = probe.tree;
    private final Model model = new Model();
    private final StringBuilder told = new StringBuilder();

    private ModelTest(long seed) {
        random = new Random(seed);
    }

    public static void main(String[] args) {
        for (int run = 0; run < RUNS; run++) {
            String wrong = new ModelTest(run).run();
            if (wrong != null) {
                System.out.println("run " + run + ":\n" + wrong);
                System.exit(1);
            }
        }
        if (LINES_SEEN[0] < 10000 || FAULTS_SEEN[0] != (1 << 13) - 4) {
            System.out.println("the runs see too little: " + LINES_SEEN[0] + " lines, faults "
                + Integer.toBinaryString(FAULTS_SEEN[0]));
            System.exit(1);
        }
    }

    private String run() {
        for (int call = 0; call < CALLS;) {
            if (random.nextInt(30) != 0) {
                call++;
                compare("erase", () -> tree.erase(), () -> model.erase());
            }
            int kind = random.nextInt(call < 200 && random.nextBoolean() ? 4 : 14);
            String line = random.nextInt(100) == 0 ? randomText() : lineFor(kind);
            for (int i = 0; i < line.length(); i += 20) {
                int from = i;
                String text = line;
                int[] n = new int[5];
                for (int k = 0; k < 5; k++) {
                    n[k] = Probe.four(text, from + 4 * k);
                }
                call++;
                compare("type " + text, () -> tree.type(n[0], n[1], n[2], n[3], n[4]), () -> model.type(n));
            }
            call += 2;
            callOf(kind);
            String wrong = state();
            if (wrong != null || told.indexOf("WRONG") >= 0) {
                return told + String.valueOf(wrong);
            }
        }
        return null;
    }

    private void callOf(int kind) {
        int size = number();
        int day = number();
        boolean which = random.nextBoolean();
        switch (kind) {
            case 0, 1, 2 -> compare("make " + which + " " + size + " " + day,
                () -> tree.make(which, size, day), () -> model.make(which, size, day));
            case 3 -> compare("link " + day, () -> tree.link(day), () -> model.link(day));
            case 4 -> compare("tie", () -> tree.tie(), () -> model.tie());
            case 5 -> compare("drop", () -> tree.drop(), () -> model.drop());
            case 6 -> {
                int to = random.nextInt(3) == 0 ? random.nextInt(10) - 1 : 7;
                compare("bits " + to, () -> tree.bits(to), () -> model.bits(to));
            }
            case 7 -> compare("go", () -> tree.go(), () -> model.go());
            case 8 -> compare("node " + which, () -> tree.node(which), () -> model.node(which));
            case 9 -> compare("real", () -> tree.real(), () -> model.real());
            default -> {
                int lines = compare("find " + day, () -> tree.find(day), () -> model.find(day));
                LINES_SEEN[0] += Math.max(0, lines);
            }
        }
    }

    private int compare(String call, Model.Answer mine, Model.Answer due) {
        String got = answer(mine);
        String want = answer(due);
        told.append(call).append(" -> ").append(got).append('\n');
        if (!got.equals(want)) {
            told.append("WRONG, due is ").append(want).append('\n');
        }
        int number = got.startsWith("throws") ? 0 : Integer.parseInt(got);
        if (number < -1 && number > -13) {
            FAULTS_SEEN[0] |= 1 << -number;
        }
        return number;
    }

    private static String answer(Model.Answer answer) {
        try {
            return String.valueOf(answer.get());
        } catch (IllegalStateException | IllegalArgumentException | IndexOutOfBoundsException e) {
            return "throws." + e.getClass().getSimpleName();
        }
    }

    /** What differs in all that can be told; null if nothing does. */
    private String state() {
        int stranger = random.nextInt(60) - 6;
        for (int n = -6; n < 54; n++) {
            // Exceptions are slow, so one node that may not be there is enough.
            boolean there = n >= 0 && n < 48 && model.items[n] != null;
            for (int what = -1; what < 7 && (there || n == stranger); what++) {
                int node = n;
                int w = what;
                String got = answer(() -> tree.tell(node, w));
                String want = answer(() -> model.tell(node, w));
                if (!got.equals(want)) {
                    return "tell(" + n + ", " + w + ") " + got + ", due is " + want;
                }
            }
        }
        for (int what = -1; what < 4; what++) {
            if (tree.count(what) != model.count(what)) {
                return "count(" + what + ") " + tree.count(what) + ", due is " + model.count(what);
            }
        }
        if (tree.place() != model.place) {
            return "place() " + tree.place() + ", due is " + model.place;
        }
        if (!probe.output().equals(model.output) || tree.output(model.output.length()) != ' ') {
            return "output " + probe.output() + ", due is " + model.output;
        }
        return null;
    }

    private int number() {
        int kind = random.nextInt(60);
        return kind == 0 ? -1 : kind == 1 ? 1000000 : kind == 2 ? 999999 : random.nextInt(4);
    }

    private String pick(String[] from) {
        return from[random.nextInt(from.length)];
    }

    private String randomText() {
        StringBuilder text = new StringBuilder();
        for (int i = random.nextInt(110); i > 0; i--) {
            text.append((char) (1 + random.nextInt(255)));
        }
        return text.toString();
    }

    /** The path of a directory that is there, and a name. */
    private String knownPath() {
        Model.Item item = model.items[random.nextInt(48)];
        return (item == null || item.kind != 0 ? "" : Model.pathOf(item)) + "/" + pick(NAMES);
    }

    private String path() {
        if (random.nextInt(3) == 0) {
            return knownPath();
        }
        StringBuilder path = new StringBuilder(random.nextInt(3) == 0 ? "/" : "");
        for (int steps = random.nextInt(12) == 0 ? random.nextInt(14) : 1 + random.nextInt(3); steps > 0; steps--) {
            path.append(random.nextInt(8) == 0 ? pick(ODD) : pick(NAMES));
            path.append(steps > 1 || random.nextInt(8) == 0 ? "/" : "");
            path.append(random.nextInt(10) == 0 ? "/" : "");
        }
        return path.toString();
    }

    private String pattern() {
        StringBuilder text = new StringBuilder();
        for (int i = 1 + random.nextInt(4); i > 0; i--) {
            text.append(pick(PIECES));
        }
        return text.toString();
    }

    private String lineFor(int kind) {
        if (kind < 3 && random.nextInt(4) != 0) {
            return knownPath();
        }
        String blank = random.nextInt(10) == 0 ? "  " : " ";
        if (kind == 3) {
            String text = random.nextInt(20) == 0 ? "./".repeat(random.nextInt(24)) + path() : path();
            return text + blank + path();
        }
        if (kind == 4) {
            return path() + blank + path();
        }
        if (kind < 10) {
            return (random.nextInt(10) == 0 ? " " : "") + path();
        }
        StringBuilder line = new StringBuilder(random.nextInt(3) == 0 ? "" : random.nextBoolean() ? "/" : path());
        if (random.nextInt(4) == 0) {
            for (int i = random.nextInt(8); i > 0; i--) {
                line.append(blank).append(pick(WORDS));
            }
        } else if (random.nextInt(8) == 0) {
            line.append(" -print".repeat(random.nextInt(12)));
        } else if (random.nextInt(8) != 0) {
            addOr(line, 0);
        }
        return line.length() > 100 ? line.substring(0, 100) : line.toString();
    }

    private void addOr(StringBuilder line, int depth) {
        addAnd(line, depth);
        while (random.nextInt(3) == 0) {
            line.append(" -o");
            addAnd(line, depth);
        }
    }

    private void addAnd(StringBuilder line, int depth) {
        addNot(line, depth);
        while (random.nextInt(3) == 0) {
            line.append(random.nextBoolean() ? " -a" : "");
            addNot(line, depth);
        }
    }

    private void addNot(StringBuilder line, int depth) {
        int kind = random.nextInt(20);
        if (kind < 4) {
            line.append(" !");
            addNot(line, depth);
        } else if (kind < 8 && depth < 4) {
            line.append(" (");
            addOr(line, depth + 1);
            line.append(" )");
        } else {
            addTest(line);
        }
    }

    private void addTest(StringBuilder line) {
        String sign = random.nextInt(2) == 0 ? "" : random.nextBoolean() ? "+" : "-";
        String number = sign + random.nextInt(4);
        switch (random.nextInt(10)) {
            case 0, 1 -> line.append(" -name ").append(pattern());
            case 2 -> line.append(" -type ").append("dfl".charAt(random.nextInt(3)));
            case 3 -> line.append(" -size ").append(number);
            case 4 -> line.append(" -mtime ").append(number);
            case 5 -> line.append(" -links ").append(number);
            case 6 -> line.append(" -newer ").append(random.nextBoolean() ? "/" : path());
            case 7 -> line.append(" -prune");
            case 8 -> line.append(random.nextInt(3) == 0 ? " -depth" : " -type d");
            default -> line.append(" -print");
        }
    }
}
