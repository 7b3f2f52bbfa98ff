/**
 * A tree of directories, files and links, paths through it, and a finder.
 * What each call promises stands in the project's document, DOC.md.
 */
public final class FindTree {
    public static final int NOENT = -2;
    public static final int NOTDIR = -3;
    public static final int CLOSED = -4;
    public static final int LOOP = -5;
    public static final int BADNAME = -6;
    public static final int EXISTS = -7;
    public static final int FULL = -8;
    public static final int LONG = -9;
    public static final int NOTEMPTY = -10;
    public static final int KIND = -11;
    public static final int SYNTAX = -12;

    private static final int OK = 0;
    private static final int NONE = -1;

    private static final int MOST = 999999;
    private static final int NODES = 48;
    private static final int NAMES = 12;
    private static final int NAME_LENGTH = 14;
    private static final int TEXT_LENGTH = 40;
    private static final int LINKS_FOLLOWED = 8;
    private static final int LINE_LENGTH = 100;
    // A line of single characters with a blank between has the most words.
    private static final int WORDS = LINE_LENGTH / 2;
    private static final int PAGE_LENGTH = 1500;
    // A way is at longest the whole line and a TEXT for each link followed.
    private static final int WAY_LENGTH = LINE_LENGTH + LINKS_FOLLOWED * TEXT_LENGTH;
    // A printed path is at longest a PATH and a NAME with its / for each node.
    private static final int PATH_LENGTH = LINE_LENGTH + NODES * (NAME_LENGTH + 1);

    private static final int ROOT = 0;
    private static final int DIRECTORY = 0;
    private static final int FILE = 1;
    private static final int LINK = 2;

    private static final int READ = 4;
    private static final int CHANGE = 2;
    private static final int THROUGH = 1;

    // Kinds of words of an EXPRESSION. The tests come last, those with a word behind them before the others.
    private static final int UNKNOWN = 0;
    private static final int NOT = 1;
    private static final int OPEN = 2;
    private static final int CLOSE = 3;
    private static final int AND = 4;
    private static final int OR = 5;
    private static final int NAME_TEST = 6;
    private static final int TYPE_TEST = 7;
    private static final int SIZE_TEST = 8;
    private static final int MTIME_TEST = 9;
    private static final int LINKS_TEST = 10;
    private static final int NEWER_TEST = 11;
    private static final int PRUNE = 12;
    private static final int PRINT = 13;
    private static final int DEPTH = 14;

    private static final char[] DOT = {'.'};

    private final Line line;
    private final Tree tree;
    private final Way way;
    private final Page page;
    private final Expression expression;
    private final Finder finder;
    private int syntaxWord;

    public FindTree() {
        line = new Line();
        tree = new Tree();
        way = new Way(tree);
        page = new Page();
        expression = new Expression(line);
        finder = new Finder(tree, line, expression, page);
        syntaxWord = NONE;
    }

    public int type(int a, int b, int c, int d, int e) throws IllegalStateException {
        int more = Line.charactersIn(a) + Line.charactersIn(b) + Line.charactersIn(c)
            + Line.charactersIn(d) + Line.charactersIn(e);
        if (line.length + more > LINE_LENGTH) {
            throw new IllegalStateException("the line would be too long");
        }
        line.add(a);
        line.add(b);
        line.add(c);
        line.add(d);
        line.add(e);
        line.split();
        return line.length;
    }

    public int erase() {
        int had = line.length;
        line.length = 0;
        line.split();
        return had;
    }

    public int make(boolean directory, int size, int day) throws IllegalArgumentException {
        if (isOutOfBounds(size) || isOutOfBounds(day)) {
            throw new IllegalArgumentException("the size or the day is out of bounds");
        }
        int holder = newPlace(0, true);
        if (holder < 0) {
            return holder;
        }
        Node made = directory ? new Node(DIRECTORY, 0, day, 0) : new Node(FILE, size, day, 0);
        return settle(made, holder, 0);
    }

    public int link(int day) throws IllegalArgumentException {
        if (isOutOfBounds(day)) {
            throw new IllegalArgumentException("the day is out of bounds");
        }
        int length = line.wordLength(0);
        if (length > TEXT_LENGTH) {
            return LONG;
        }
        int holder = newPlace(1, true);
        if (holder < 0) {
            return holder;
        }
        Node made = new Node(LINK, length, day, length);
        System.arraycopy(line.chars, line.start(0), made.text, 0, made.text.length);
        return settle(made, holder, 1);
    }

    public int tie() {
        int number = nodeOfWord(0, false);
        if (number < 0) {
            return number;
        }
        if (tree.isDirectory(number)) {
            return KIND;
        }
        int holder = newPlace(1, false);
        if (holder < 0) {
            return holder;
        }
        tree.join(holder, line.lastStep(1), number);
        return number;
    }

    public int drop() {
        int number = nodeOfWord(0, false);
        if (number < 0) {
            return number;
        }
        if (way.by == null || number == tree.here) {
            return KIND;
        }
        Node holder = tree.at(way.holder);
        if (holder == null || (holder.bits & CHANGE) == 0) {
            return CLOSED;
        }
        Node dropped = tree.at(number);
        if (dropped != null && dropped.names > 0) {
            return NOTEMPTY;
        }
        tree.part(way.holder, way.by);
        return number;
    }

    public int bits(int to) throws IllegalArgumentException {
        if (to < 0 || to > (READ | CHANGE | THROUGH)) {
            throw new IllegalArgumentException("the bits are not 0 to 7");
        }
        int number = nodeOfWord(0, true);
        if (number < 0) {
            return number;
        }
        Node changed = tree.at(number);
        if (changed == null || changed.kind != DIRECTORY) {
            return KIND;
        }
        int before = changed.bits;
        changed.bits = to;
        return before;
    }

    public int go() {
        int number = nodeOfWord(0, true);
        if (number < 0) {
            return number;
        }
        Node to = tree.at(number);
        if (to == null || to.kind != DIRECTORY) {
            return NOTDIR;
        }
        if ((to.bits & THROUGH) == 0) {
            return CLOSED;
        }
        tree.here = number;
        return number;
    }

    public int node(boolean followed) {
        return nodeOfWord(0, followed);
    }

    public int real() {
        int number = nodeOfWord(0, true);
        if (number < 0) {
            return number;
        }
        page.beginAtBack();
        int directory = number;
        if (way.by != null) {
            page.putInFront(way.by);
            directory = way.holder;
        }
        for (int turn = 0; turn < NODES && directory != ROOT; turn++) {
            Node passed = tree.at(directory);
            if (passed == null || passed.tied == null) {
                break;
            }
            page.putInFront(passed.tied);
            directory = passed.above;
        }
        page.moveToFront();
        return page.length;
    }

    public int find(int present) throws IllegalArgumentException {
        if (isOutOfBounds(present)) {
            throw new IllegalArgumentException("the present day is out of bounds");
        }
        page.length = 0;
        finder.begin(present);
        int first = line.beginsWithPath() ? 1 : 0;
        syntaxWord = expression.read(first);
        if (syntaxWord != NONE) {
            return SYNTAX;
        }
        int fault = lookUpNewer();
        if (fault != OK) {
            return fault;
        }
        if (first == 0) {
            int here = way.along(DOT, 0, DOT.length, false);
            return here < 0 ? here : finder.search(here, DOT, 0, DOT.length);
        }
        int number = nodeOfWord(0, false);
        return number < 0 ? number : finder.search(number, line.chars, line.start(0), line.end(0));
    }

    public int place() {
        return syntaxWord;
    }

    public char output(int k) {
        return k >= 0 && k < page.length && k < PAGE_LENGTH ? page.chars[k] : ' ';
    }

    public int tell(int node, int what) throws IndexOutOfBoundsException {
        Node told = tree.at(node);
        if (told == null) {
            throw new IndexOutOfBoundsException("there is no such node");
        }
        switch (what) {
            case 0:
                return told.kind;
            case 1:
                return told.size;
            case 2:
                return told.day;
            case 3:
                return told.ties;
            case 4:
                return told.kind == LINK ? told.text.length : told.names;
            case 5:
                return told.bits;
            default:
                return NONE;
        }
    }

    public int count(int what) {
        switch (what) {
            case 0:
                return tree.total;
            case 1:
                return finder.complaints;
            case 2:
                return page.length;
            default:
                return NONE;
        }
    }

    private static boolean isOutOfBounds(int number) {
        return number < 0 || number > MOST;
    }

    /** The node to which a word leads, or a fault. */
    private int nodeOfWord(int word, boolean followed) {
        if (word >= line.words) {
            return NOENT;
        }
        return way.along(line.chars, line.start(word), line.end(word), followed);
    }

    /** The directory of the NEW PLACE that a word is, or a fault. */
    private int newPlace(int word, boolean forNewNode) {
        if (word >= line.words) {
            return NOENT;
        }
        int from = line.lastStepStart(word);
        int to = line.lastStepEnd(word);
        if (!Entry.isName(line.chars, from, to)) {
            return BADNAME;
        }
        int start = line.start(word);
        int holder = from == start ? tree.here : way.along(line.chars, start, from, true);
        if (holder < 0) {
            return holder;
        }
        Node directory = tree.at(holder);
        if (directory == null || directory.kind != DIRECTORY) {
            return NOTDIR;
        }
        if ((directory.bits & CHANGE) == 0 || (directory.bits & THROUGH) == 0) {
            return CLOSED;
        }
        if (directory.entry(line.chars, from, to) != null) {
            return EXISTS;
        }
        if (directory.names >= NAMES || forNewNode && tree.total >= NODES) {
            return FULL;
        }
        return holder;
    }

    private int settle(Node made, int holder, int word) {
        int number = tree.add(made);
        if (number < 0) {
            return FULL;
        }
        tree.join(holder, line.lastStep(word), number);
        return number;
    }

    /** The days of all nodes that -newer names, before any node is asked: OK or the first fault. */
    private int lookUpNewer() {
        for (int part = 0; part < expression.parts; part++) {
            if (expression.kinds[part] == NEWER_TEST) {
                int number = nodeOfWord(expression.operands[part], true);
                if (number < 0) {
                    return number;
                }
                Node other = tree.at(number);
                expression.numbers[part] = other == null ? 0 : other.day;
            }
        }
        return OK;
    }

    /** What was typed, and where its words begin and end. */
    private static final class Line {
        final char[] chars = new char[LINE_LENGTH];
        final int[] starts = new int[WORDS];
        final int[] ends = new int[WORDS];
        int length;
        int words;

        static int charactersIn(int four) {
            int found = 0;
            for (int shift = 24; shift >= 0; shift -= 8) {
                if ((four >>> shift & 255) != 0) {
                    found++;
                }
            }
            return found;
        }

        void add(int four) {
            for (int shift = 24; shift >= 0; shift -= 8) {
                int code = four >>> shift & 255;
                if (code != 0 && length < LINE_LENGTH) {
                    chars[length] = (char) code;
                    length++;
                }
            }
        }

        void split() {
            words = 0;
            boolean inWord = false;
            for (int i = 0; i < length && i < LINE_LENGTH; i++) {
                boolean blank = chars[i] == ' ';
                if (!blank && !inWord && words < WORDS) {
                    starts[words] = i;
                    words++;
                }
                if (!blank && words > 0) {
                    ends[words - 1] = i + 1;
                }
                inWord = !blank;
            }
        }

        int start(int word) {
            return word >= 0 && word < words && word < WORDS ? starts[word] : 0;
        }

        int end(int word) {
            return word >= 0 && word < words && word < WORDS ? ends[word] : 0;
        }

        int wordLength(int word) {
            return end(word) - start(word);
        }

        /** A character of a word; 0, which is never typed, if it has none such. */
        char letter(int word, int k) {
            return k >= 0 && k < wordLength(word) ? chars[start(word) + k] : 0;
        }

        boolean is(int word, String text) {
            if (wordLength(word) != text.length()) {
                return false;
            }
            for (int k = 0; k < text.length(); k++) {
                if (letter(word, k) != text.charAt(k)) {
                    return false;
                }
            }
            return true;
        }

        boolean beginsWithPath() {
            return words > 0 && letter(0, 0) != '-' && !is(0, "(") && !is(0, "!");
        }

        int lastStepEnd(int word) {
            int start = start(word);
            int end = end(word);
            while (end > start && chars[end - 1] == '/') {
                end--;
            }
            return end;
        }

        int lastStepStart(int word) {
            int start = start(word);
            int from = lastStepEnd(word);
            while (from > start && chars[from - 1] != '/') {
                from--;
            }
            return from;
        }

        char[] lastStep(int word) {
            int from = lastStepStart(word);
            char[] step = new char[Math.max(0, lastStepEnd(word) - from)];
            System.arraycopy(chars, from, step, 0, step.length);
            return step;
        }
    }

    /** A directory, a file or a link. */
    private static final class Node {
        final int kind;
        final int size;
        final int day;
        final char[] text;
        // In the order of their names, so that a finder can take them as they come.
        final Entry[] entries;
        int names;
        int bits;
        int ties;
        // A directory has one TIE: the directory that has it, and the entry there.
        int above;
        Entry tied;

        Node(int kind, int size, int day, int textLength) {
            this.kind = kind;
            this.size = size;
            this.day = day;
            this.text = new char[Math.max(0, textLength)];
            this.entries = new Entry[kind == DIRECTORY ? NAMES : 0];
            this.bits = kind == DIRECTORY ? READ | CHANGE | THROUGH : 0;
        }

        Entry entry(char[] chars, int from, int to) {
            for (int i = 0; i < names && i < entries.length; i++) {
                Entry found = entries[i];
                if (found != null && found.orderTo(chars, from, to) == 0) {
                    return found;
                }
            }
            return null;
        }

        void insert(Entry added) {
            if (names >= entries.length) {
                return;
            }
            int at = names;
            while (at > 0 && entries[at - 1] != null
                    && entries[at - 1].orderTo(added.name, 0, added.name.length) > 0) {
                entries[at] = entries[at - 1];
                at--;
            }
            entries[at] = added;
            names++;
        }

        void remove(Entry removed) {
            int kept = 0;
            for (int i = 0; i < names && i < entries.length; i++) {
                if (entries[i] != removed) {
                    entries[kept] = entries[i];
                    kept++;
                }
            }
            for (int i = kept; i < entries.length; i++) {
                entries[i] = null;
            }
            names = kept;
        }
    }

    /** A NAME in a directory, and the number of the node that it has by it. */
    private static final class Entry {
        final char[] name;
        final int number;

        Entry(char[] name, int number) {
            this.name = name;
            this.number = number;
        }

        static boolean isName(char[] chars, int from, int to) {
            int length = to - from;
            if (from < 0 || to > chars.length || length < 1 || length > NAME_LENGTH) {
                return false;
            }
            boolean dots = true;
            for (int i = from; i < to; i++) {
                char c = chars[i];
                boolean letter = c >= 'a' && c <= 'z' || c >= '0' && c <= '9';
                if (!letter && c != '.' && c != '_' && c != '-') {
                    return false;
                }
                dots = dots && c == '.';
            }
            return !(dots && length <= 2);
        }

        /** Below, at or above 0 as the name comes before, is, or comes behind the characters told. */
        int orderTo(char[] chars, int from, int to) {
            if (from < 0 || to > chars.length) {
                return -1;
            }
            for (int i = 0; i < name.length && from + i < to; i++) {
                if (name[i] != chars[from + i]) {
                    return name[i] - chars[from + i];
                }
            }
            return name.length - (to - from);
        }
    }

    /** The nodes by their numbers, and HERE. */
    private static final class Tree {
        final Node[] nodes = new Node[NODES];
        int total;
        int here;

        Tree() {
            Node root = new Node(DIRECTORY, 0, 0, 0);
            root.ties = 1;
            root.above = ROOT;
            nodes[ROOT] = root;
            total = 1;
            here = ROOT;
        }

        Node at(int number) {
            return number >= 0 && number < NODES ? nodes[number] : null;
        }

        boolean isDirectory(int number) {
            Node asked = at(number);
            return asked != null && asked.kind == DIRECTORY;
        }

        /** Gives a node the least number that is free; NONE if there is none. */
        int add(Node made) {
            for (int number = 0; number < NODES; number++) {
                if (nodes[number] == null) {
                    nodes[number] = made;
                    total++;
                    return number;
                }
            }
            return NONE;
        }

        void join(int holder, char[] name, int number) {
            Node directory = at(holder);
            Node joined = at(number);
            if (directory == null || joined == null) {
                return;
            }
            Entry entry = new Entry(name, number);
            directory.insert(entry);
            joined.ties++;
            joined.above = holder;
            joined.tied = entry;
        }

        void part(int holder, Entry entry) {
            Node directory = at(holder);
            Node parted = at(entry.number);
            if (directory == null || parted == null) {
                return;
            }
            directory.remove(entry);
            parted.ties--;
            if (parted.ties == 0) {
                nodes[entry.number] = null;
                total--;
            }
        }
    }

    /** Goes along a PATH, and knows then by which TIE it came to the last node. */
    private static final class Way {
        final Tree tree;
        // The rest of the way stands at the row's end, so that a link's TEXT can be put in front of it.
        final char[] rest = new char[WAY_LENGTH];
        int position;
        int reached;
        int links;
        int holder;
        // null if one came by . or .. or nothing
        Entry by;

        Way(Tree tree) {
            this.tree = tree;
        }

        /** The number of the node to which the path leads, or a fault. */
        int along(char[] chars, int from, int to, boolean followed) {
            int length = to - from;
            if (from < 0 || to > chars.length || length < 1 || length > WAY_LENGTH) {
                return NOENT;
            }
            position = WAY_LENGTH;
            links = 0;
            reached = tree.here;
            putInFront(chars, from, length);
            // Each turn but the last uses up a character of the way at least.
            for (int turn = 0; turn <= WAY_LENGTH; turn++) {
                int before = position;
                while (position < WAY_LENGTH && rest[position] == '/') {
                    position++;
                }
                if (position >= WAY_LENGTH) {
                    return position > before && !tree.isDirectory(reached) ? NOTDIR : reached;
                }
                int fault = takeStep(followed);
                if (fault != OK) {
                    return fault;
                }
            }
            return LOOP;
        }

        private void putInFront(char[] chars, int from, int length) {
            position -= length;
            System.arraycopy(chars, from, rest, position, length);
            by = null;
            if (chars[from] == '/') {
                reached = ROOT;
            }
        }

        private int takeStep(boolean followed) {
            int from = position;
            while (position < WAY_LENGTH && rest[position] != '/') {
                position++;
            }
            Node directory = tree.at(reached);
            if (directory == null || directory.kind != DIRECTORY) {
                return NOTDIR;
            }
            if ((directory.bits & THROUGH) == 0) {
                return CLOSED;
            }
            int dots = dotsAlone(from);
            if (dots > 0) {
                by = null;
                reached = dots == 2 ? directory.above : reached;
                return OK;
            }
            Entry entry = directory.entry(rest, from, position);
            Node next = entry == null ? null : tree.at(entry.number);
            if (entry == null || next == null) {
                return NOENT;
            }
            if (next.kind == LINK && (followed || position < WAY_LENGTH)) {
                return follow(next);
            }
            by = entry;
            holder = reached;
            reached = entry.number;
            return OK;
        }

        /** 1 or 2 if the step from there on is . or .., else 0. */
        private int dotsAlone(int from) {
            int length = position - from;
            if (from < 0 || length < 1 || length > 2 || rest[from] != '.') {
                return 0;
            }
            return length == 1 || rest[from + 1] == '.' ? length : 0;
        }

        private int follow(Node link) {
            links++;
            int length = link.text.length;
            if (links > LINKS_FOLLOWED || length > position) {
                return LOOP;
            }
            if (length < 1) {
                return NOENT;
            }
            putInFront(link.text, 0, length);
            return OK;
        }
    }

    /** THE OUTPUT. */
    private static final class Page {
        final char[] chars = new char[PAGE_LENGTH];
        int length;
        // While a path is written from its end to its front: where it begins.
        int front;

        /** Writes a path on a line of its own, or nothing if there is no room for it. */
        boolean writeLine(char[] path, int pathLength) {
            if (pathLength < 0 || pathLength > path.length || length + pathLength + 1 > PAGE_LENGTH) {
                return false;
            }
            System.arraycopy(path, 0, chars, length, pathLength);
            length += pathLength;
            chars[length] = 10;
            length++;
            return true;
        }

        void beginAtBack() {
            front = PAGE_LENGTH;
        }

        void putInFront(Entry entry) {
            int size = entry.name.length;
            if (size + 1 > front) {
                return;
            }
            System.arraycopy(entry.name, 0, chars, front - size, size);
            front -= size + 1;
            chars[front] = '/';
        }

        void moveToFront() {
            if (front >= PAGE_LENGTH) {
                front = PAGE_LENGTH - 1;
                chars[front] = '/';
            }
            length = PAGE_LENGTH - front;
            System.arraycopy(chars, front, chars, 0, length);
        }
    }

    /** The EXPRESSION of THE LINE as a row of parts in the order of its words. */
    private static final class Expression {
        final Line line;
        final int[] kinds = new int[WORDS];
        // The word behind a test, for those that have one.
        final int[] operands = new int[WORDS];
        // What is compared: of N the number, of -type the kind, of -newer the other node's day.
        final int[] numbers = new int[WORDS];
        final char[] signs = new char[WORDS];
        int parts;
        boolean prints;
        boolean deep;

        Expression(Line line) {
            this.line = line;
        }

        /** Reads the words from the first told on: NONE, or the word at which it can't go on. */
        int read(int first) {
            parts = 0;
            prints = false;
            deep = false;
            if (first >= line.words) {
                addPart(PRINT);
                return NONE;
            }
            int open = 0;
            boolean wanted = true;
            for (int word = first; word < line.words; word++) {
                int kind = kindOf(word);
                if (kind == NOT || kind == OPEN) {
                    open += kind == OPEN ? 1 : 0;
                    wanted = true;
                } else if (kind >= NAME_TEST) {
                    if (kind < PRUNE) {
                        word++;
                        if (!readOperand(kind, word)) {
                            return word;
                        }
                    }
                    wanted = false;
                } else if (wanted || kind == UNKNOWN || kind == CLOSE && open == 0) {
                    return word;
                } else {
                    open -= kind == CLOSE ? 1 : 0;
                    wanted = kind != CLOSE;
                }
                addPart(kind);
            }
            return wanted || open > 0 ? line.words : NONE;
        }

        private void addPart(int kind) {
            if (parts < WORDS) {
                kinds[parts] = kind;
                parts++;
            }
            prints = prints || kind == PRINT;
            deep = deep || kind == DEPTH;
        }

        private int kindOf(int word) {
            if (line.letter(word, 0) == '-') {
                return kindOfMinus(word);
            }
            if (line.is(word, "!")) {
                return NOT;
            }
            if (line.is(word, "(")) {
                return OPEN;
            }
            return line.is(word, ")") ? CLOSE : UNKNOWN;
        }

        private int kindOfMinus(int word) {
            if (line.is(word, "-a")) {
                return AND;
            }
            if (line.is(word, "-o")) {
                return OR;
            }
            if (line.is(word, "-name")) {
                return NAME_TEST;
            }
            if (line.is(word, "-type")) {
                return TYPE_TEST;
            }
            if (line.is(word, "-size")) {
                return SIZE_TEST;
            }
            if (line.is(word, "-mtime")) {
                return MTIME_TEST;
            }
            if (line.is(word, "-links")) {
                return LINKS_TEST;
            }
            if (line.is(word, "-newer")) {
                return NEWER_TEST;
            }
            if (line.is(word, "-prune")) {
                return PRUNE;
            }
            if (line.is(word, "-print")) {
                return PRINT;
            }
            return line.is(word, "-depth") ? DEPTH : UNKNOWN;
        }

        private boolean readOperand(int kind, int word) {
            if (word >= line.words || parts >= WORDS) {
                return false;
            }
            operands[parts] = word;
            if (kind == TYPE_TEST) {
                return readKind(word);
            }
            return kind == NAME_TEST || kind == NEWER_TEST || readNumber(word);
        }

        private boolean readKind(int word) {
            char letter = line.letter(word, 0);
            numbers[parts] = letter == 'd' ? DIRECTORY : letter == 'f' ? FILE : LINK;
            return line.wordLength(word) == 1 && (letter == 'd' || letter == 'f' || letter == 'l');
        }

        private boolean readNumber(int word) {
            char sign = line.letter(word, 0);
            boolean signed = sign == '+' || sign == '-';
            int first = signed ? 1 : 0;
            int length = line.wordLength(word);
            if (length - first < 1 || length - first > 6) {
                return false;
            }
            int number = 0;
            for (int k = first; k < length; k++) {
                char digit = line.letter(word, k);
                if (digit < '0' || digit > '9') {
                    return false;
                }
                number = number * 10 + (digit - '0');
            }
            numbers[parts] = number;
            signs[parts] = signed ? sign : '=';
            return true;
        }
    }

    /** Whether a NAME matches a P, which is a word of THE LINE. */
    private static final class Glob {
        final Line line;
        int to;

        Glob(Line line) {
            this.line = line;
        }

        /**
         * Keeps as bits how many characters of the name the pattern so far can stand for,
         * so that a * needs no way back.
         */
        boolean matches(int word, char[] name, int nameFrom, int nameTo) {
            int length = nameTo - nameFrom;
            if (nameFrom < 0 || nameTo > name.length || length < 0 || length > NAME_LENGTH) {
                return false;
            }
            char[] pattern = line.chars;
            to = line.end(word);
            int ends = 1;
            int next = 0;
            for (int i = line.start(word); i < to && ends != 0; i = next) {
                int close = pattern[i] == '[' ? closing(i) : NONE;
                next = Math.max(i, close) + 1;
                if (pattern[i] == '*') {
                    ends = fromLeastOn(ends, length);
                    continue;
                }
                int later = 0;
                for (int k = 0; k < length; k++) {
                    char c = name[nameFrom + k];
                    boolean fits = close == NONE ? pattern[i] == '?' || pattern[i] == c : isInSet(i, close, c);
                    if (fits && (ends >> k & 1) == 1) {
                        later |= 2 << k;
                    }
                }
                ends = later;
            }
            return (ends >> length & 1) == 1;
        }

        /** The least bit that is set and all above it up to the last one told. */
        private static int fromLeastOn(int set, int last) {
            int upToLast = (2 << last) - 1;
            return upToLast & -(set & -set);
        }

        /** Where the set that begins there ends; NONE if it doesn't. */
        private int closing(int open) {
            boolean butThese = open + 1 < to && line.chars[open + 1] == '!';
            int inside = butThese ? open + 2 : open + 1;
            // A ] directly inside is a character.
            for (int k = inside + 1; k < to; k++) {
                if (line.chars[k] == ']') {
                    return k;
                }
            }
            return NONE;
        }

        private boolean isInSet(int open, int close, char c) {
            char[] pattern = line.chars;
            boolean butThese = open + 1 < close && pattern[open + 1] == '!';
            for (int k = butThese ? open + 2 : open + 1; k < close; k++) {
                boolean span = k + 2 < close && pattern[k + 1] == '-';
                char last = span ? pattern[k + 2] : pattern[k];
                if (pattern[k] <= c && c <= last) {
                    return !butThese;
                }
                k += span ? 2 : 0;
            }
            return butThese;
        }
    }

    /** The truth of an EXPRESSION while its parts come one by one, a level for each open ( . */
    private static final class Truth {
        final boolean[] asked = new boolean[WORDS + 1];
        final boolean[] orTrue = new boolean[WORDS + 1];
        final boolean[] andTrue = new boolean[WORDS + 1];
        final boolean[] turned = new boolean[WORDS + 1];
        int level;

        void begin() {
            level = 0;
            clearLevel(true);
        }

        private void clearLevel(boolean isAsked) {
            asked[level] = isAsked;
            orTrue[level] = false;
            andTrue[level] = true;
            turned[level] = false;
        }

        /** Whether the next part's truth still matters. */
        boolean isOpen() {
            return asked[level] && andTrue[level] && !orTrue[level];
        }

        boolean value() {
            return orTrue[level] || andTrue[level];
        }

        void join(boolean part) {
            if (isOpen()) {
                andTrue[level] = part != turned[level];
            }
            turned[level] = false;
        }

        void turn() {
            turned[level] = !turned[level];
        }

        void nextAnd() {
            orTrue[level] = orTrue[level] || andTrue[level];
            andTrue[level] = true;
        }

        void enter() {
            boolean isAsked = isOpen();
            if (level < WORDS) {
                level++;
                clearLevel(isAsked);
            }
        }

        void leave() {
            boolean part = value();
            if (level > 0) {
                level--;
                join(part);
            }
        }
    }

    /** Asks the EXPRESSION of all nodes below a place. */
    private static final class Finder {
        final Tree tree;
        final Expression expression;
        final Page page;
        final Glob glob;
        final Truth truth = new Truth();
        final char[] path = new char[PATH_LENGTH];
        int present;
        int lines;
        int complaints;
        boolean pruned;
        boolean full;
        // Of the node that is asked: where its NAME stands in the path, and where the path ends.
        int nameFrom;
        int nameTo;
        int pathEnd;

        Finder(Tree tree, Line line, Expression expression, Page page) {
            this.tree = tree;
            this.expression = expression;
            this.page = page;
            this.glob = new Glob(line);
        }

        void begin(int day) {
            present = day;
            lines = 0;
            complaints = 0;
            pruned = false;
            full = false;
        }

        /** Asks from a node on, to which the characters told have led: how many lines, or FULL. */
        int search(int number, char[] chars, int from, int to) {
            int length = to - from;
            if (from < 0 || to > chars.length || length < 1 || length > LINE_LENGTH) {
                return NOENT;
            }
            System.arraycopy(chars, from, path, 0, length);
            int stepTo = length;
            while (stepTo > 0 && path[stepTo - 1] == '/') {
                stepTo--;
            }
            int stepFrom = stepTo;
            while (stepFrom > 0 && path[stepFrom - 1] != '/') {
                stepFrom--;
            }
            // Without a step the path begins with the / that is then the name.
            visit(number, stepFrom, Math.max(1, stepTo), length, 0);
            return full ? FULL : lines;
        }

        private void visit(int number, int from, int to, int end, int depth) {
            Node visited = tree.at(number);
            if (visited == null || depth >= NODES || full) {
                return;
            }
            pruned = false;
            if (!expression.deep) {
                ask(visited, from, to, end);
            }
            boolean leftOut = pruned && !expression.deep;
            if (visited.kind == DIRECTORY && !leftOut && !full) {
                visitBelow(visited, end, depth);
            }
            if (expression.deep && !full) {
                ask(visited, from, to, end);
            }
        }

        private void visitBelow(Node directory, int end, int depth) {
            if ((directory.bits & READ) == 0 || (directory.bits & THROUGH) == 0) {
                complaints++;
                return;
            }
            if (end < 1 || end >= PATH_LENGTH) {
                return;
            }
            int start = end;
            if (path[end - 1] != '/') {
                path[end] = '/';
                start = end + 1;
            }
            for (int i = 0; i < directory.names && i < directory.entries.length && !full; i++) {
                Entry entry = directory.entries[i];
                if (entry != null && start + entry.name.length <= PATH_LENGTH) {
                    int length = entry.name.length;
                    System.arraycopy(entry.name, 0, path, start, length);
                    visit(entry.number, start, start + length, start + length, depth + 1);
                }
            }
        }

        private void ask(Node asked, int from, int to, int end) {
            nameFrom = from;
            nameTo = to;
            pathEnd = end;
            truth.begin();
            for (int part = 0; part < expression.parts && part < WORDS; part++) {
                int kind = expression.kinds[part];
                if (kind == NOT) {
                    truth.turn();
                } else if (kind == OPEN) {
                    truth.enter();
                } else if (kind == CLOSE) {
                    truth.leave();
                } else if (kind == OR) {
                    truth.nextAnd();
                } else if (kind != AND) {
                    truth.join(truth.isOpen() && isTrue(asked, part));
                }
            }
            if (!expression.prints && truth.value()) {
                printPath();
            }
        }

        private boolean isTrue(Node asked, int part) {
            int number = expression.numbers[part];
            switch (expression.kinds[part]) {
                case NAME_TEST:
                    return glob.matches(expression.operands[part], path, nameFrom, nameTo);
                case TYPE_TEST:
                    return asked.kind == number;
                case SIZE_TEST:
                    return compares(asked.size, part);
                case MTIME_TEST:
                    return compares(present - asked.day, part);
                case LINKS_TEST:
                    return compares(asked.ties, part);
                case NEWER_TEST:
                    return asked.day > number;
                case PRUNE:
                    pruned = true;
                    return true;
                case PRINT:
                    printPath();
                    return true;
                default:
                    return true;
            }
        }

        private boolean compares(int value, int part) {
            int number = expression.numbers[part];
            if (expression.signs[part] == '+') {
                return value > number;
            }
            return expression.signs[part] == '-' ? value < number : value == number;
        }

        /** After a path that found no room nothing more is printed, even if it were shorter. */
        private void printPath() {
            if (full) {
                return;
            }
            if (page.writeLine(path, pathEnd)) {
                lines++;
            } else {
                full = true;
            }
        }
    }
}
