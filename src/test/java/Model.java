import java.util.ArrayList;
import java.util.Arrays;
import java.util.List;
import java.util.Map;
import java.util.TreeMap;
import java.util.function.IntPredicate;
import java.util.function.Predicate;
import java.util.regex.Pattern;

/** The document once more, written with texts, maps and recursion, for comparison. */
final class Model {
    static final int NOENT = -2;
    static final int NOTDIR = -3;
    static final int CLOSED = -4;
    static final int LOOP = -5;
    static final int SYNTAX = -12;

    /** A fault on the way. */
    static final class Fault extends RuntimeException {
        private static final long serialVersionUID = 1L;
        final int number;

        Fault(int number) {
            this.number = number;
        }
    }

    static final class Item {
        int kind;
        int size;
        int day;
        int ties;
        int bits;
        String text = "";
        Item above;
        final Map<String, Item> names = new TreeMap<>();
    }

    /** Where a path led: the item, and the directory and name by which it was come to (or null). */
    record Arrival(Item item, Item holder, String name) { }

    record Asked(Item item, String name, String path) { }

    final Item[] items = new Item[48];
    Item here;
    String line = "";
    String output = "";
    int complaints;
    int place = -1;

    private String[] words;
    private int at;
    private boolean prints;
    private boolean deep;
    private boolean pruned;
    private int present;
    private int lines;

    Model() {
        here = new Item();
        here.ties = 1;
        here.bits = 7;
        here.above = here;
        items[0] = here;
    }

    // ---- the calls; each answers what the class should, exceptions as their class

    int type(int... numbers) {
        String more = "";
        for (int number : numbers) {
            for (int i = 0; i < 4; i++) {
                int code = (number >> 24 - 8 * i) & 0xff;
                more += code == 0 ? "" : String.valueOf((char) code);
            }
        }
        if ((line + more).length() > 100) {
            throw new IllegalStateException();
        }
        line += more;
        return line.length();
    }

    int erase() {
        int had = line.length();
        line = "";
        return had;
    }

    int make(boolean directory, int size, int day) {
        bounded(size);
        bounded(day);
        return faulty(() -> create(0, directory ? 0 : 1, directory ? 0 : size, day, ""));
    }

    int link(int day) {
        bounded(day);
        return faulty(() -> {
            String text = word(0);
            if (text != null && text.length() > 40) {
                throw new Fault(-9);
            }
            return create(1, 2, text == null ? 0 : text.length(), day, text);
        });
    }

    int tie() {
        return faulty(() -> {
            Item item = arrive(word(0), false).item;
            if (item.kind == 0) {
                throw new Fault(-11);
            }
            Item holder = newPlace(word(1), false);
            holder.names.put(lastStep(word(1)), item);
            item.ties++;
            return number(item);
        });
    }

    int drop() {
        return faulty(() -> {
            Arrival a = arrive(word(0), false);
            if (a.name == null || a.item == here) {
                throw new Fault(-11);
            }
            if ((a.holder.bits & 2) == 0) {
                throw new Fault(CLOSED);
            }
            if (!a.item.names.isEmpty()) {
                throw new Fault(-10);
            }
            int number = number(a.item);
            a.holder.names.remove(a.name);
            if (--a.item.ties == 0) {
                items[number] = null;
            }
            return number;
        });
    }

    int bits(int to) {
        if ((to & 7) != to) {
            throw new IllegalArgumentException();
        }
        return faulty(() -> {
            Item item = arrive(word(0), true).item;
            if (item.kind != 0) {
                throw new Fault(-11);
            }
            int before = item.bits;
            item.bits = to;
            return before;
        });
    }

    int go() {
        return faulty(() -> {
            Item item = arrive(word(0), true).item;
            if (item.kind != 0) {
                throw new Fault(NOTDIR);
            }
            if (item.bits % 2 == 0) {
                throw new Fault(CLOSED);
            }
            here = item;
            return number(item);
        });
    }

    int node(boolean followed) {
        return faulty(() -> number(arrive(word(0), followed).item));
    }

    int real() {
        return faulty(() -> {
            Arrival a = arrive(word(0), true);
            String path = a.name == null ? pathOf(a.item) : pathOf(a.holder) + "/" + a.name;
            output = path.isEmpty() ? "/" : path;
            return output.length();
        });
    }

    int find(int day) {
        bounded(day);
        present = day;
        output = "";
        complaints = 0;
        place = -1;
        lines = 0;
        return faulty(this::search);
    }

    char output(int k) {
        return k >= 0 && k < output.length() ? output.charAt(k) : ' ';
    }

    int tell(int node, int what) {
        if (node < 0 || node > 47 || items[node] == null) {
            throw new IndexOutOfBoundsException();
        }
        Item i = items[node];
        int[] all = {i.kind, i.size, i.day, i.ties, i.names.size() + i.text.length(), i.bits};
        return what >= 0 && what < 6 ? all[what] : -1;
    }

    int count(int what) {
        int[] all = {(int) Arrays.stream(items).filter(i -> i != null).count(), complaints, output.length()};
        return what >= 0 && what < 3 ? all[what] : -1;
    }

    // ---- paths

    interface Answer {
        int get();
    }

    private static int faulty(Answer answer) {
        try {
            return answer.get();
        } catch (Fault fault) {
            return fault.number;
        }
    }

    private static void bounded(int number) {
        if (number < 0 || number > 999999) {
            throw new IllegalArgumentException();
        }
    }

    private String[] split() {
        return Arrays.stream(line.split(" ")).filter(w -> !w.isEmpty()).toArray(String[]::new);
    }

    private String word(int k) {
        String[] all = split();
        return k < all.length ? all[k] : null;
    }

    private int number(Item item) {
        return Arrays.asList(items).indexOf(item);
    }

    static String pathOf(Item directory) {
        if (directory.above == directory) {
            return "";
        }
        for (Map.Entry<String, Item> e : directory.above.names.entrySet()) {
            if (e.getValue() == directory) {
                return pathOf(directory.above) + "/" + e.getKey();
            }
        }
        throw new AssertionError("a directory that none has");
    }

    private Arrival arrive(String path, boolean followed) {
        if (path == null || path.isEmpty()) {
            throw new Fault(NOENT);
        }
        return arrive(here, path, followed, 0);
    }

    private Arrival arrive(Item from, String path, boolean followed, int links) {
        Arrival a = new Arrival(path.startsWith("/") ? items[0] : from, null, null);
        String rest = path.replaceFirst("^/+", "");
        while (!rest.isEmpty()) {
            int slash = rest.indexOf('/');
            String step = slash < 0 ? rest : rest.substring(0, slash);
            String behind = slash < 0 ? "" : rest.substring(slash);
            if (a.item.kind != 0) {
                throw new Fault(NOTDIR);
            }
            if ((a.item.bits & 1) == 0) {
                throw new Fault(CLOSED);
            }
            Item next = step.equals(".") ? a.item : step.equals("..") ? a.item.above : a.item.names.get(step);
            if (next == null) {
                throw new Fault(NOENT);
            }
            if (next.kind == 2 && (followed || !behind.isEmpty())) {
                if (links == 8) {
                    throw new Fault(LOOP);
                }
                return arrive(a.item, next.text + behind, followed, links + 1);
            }
            boolean named = !step.equals(".") && !step.equals("..");
            a = new Arrival(next, named ? a.item : null, named ? step : null);
            rest = behind.replaceFirst("^/+", "");
        }
        if (path.endsWith("/") && a.item.kind != 0) {
            throw new Fault(NOTDIR);
        }
        return a;
    }

    private static String lastStep(String path) {
        String bare = path.replaceFirst("/+$", "");
        return bare.substring(bare.lastIndexOf('/') + 1);
    }

    private Item newPlace(String path, boolean forNew) {
        if (path == null) {
            throw new Fault(NOENT);
        }
        String name = lastStep(path);
        if (!name.matches("[a-z0-9._-]{1,14}") || name.equals(".") || name.equals("..")) {
            throw new Fault(-6);
        }
        String bare = path.replaceFirst("/+$", "");
        String rest = bare.substring(0, bare.length() - name.length());
        Item holder = rest.isEmpty() ? here : arrive(rest, true).item;
        if (holder.kind != 0) {
            throw new Fault(NOTDIR);
        }
        if ((holder.bits & 3) < 3) {
            throw new Fault(CLOSED);
        }
        if (holder.names.containsKey(name)) {
            throw new Fault(-7);
        }
        if (holder.names.size() == 12 || forNew && count(0) == 48) {
            throw new Fault(-8);
        }
        return holder;
    }

    private int create(int word, int kind, int size, int day, String text) {
        Item holder = newPlace(word(word), true);
        Item item = new Item();
        item.kind = kind;
        item.size = size;
        item.day = day;
        item.ties = 1;
        item.bits = kind == 0 ? 7 : 0;
        item.text = text;
        item.above = holder;
        holder.names.put(lastStep(word(word)), item);
        int number = Arrays.asList(items).indexOf(null);
        items[number] = item;
        return number;
    }

    // ---- finding

    private int search() {
        words = split();
        at = 0;
        prints = false;
        deep = false;
        String path = ".";
        if (words.length > 0 && !words[0].startsWith("-") && !words[0].equals("(") && !words[0].equals("!")) {
            path = words[0];
            at = 1;
        }
        List<String> references = new ArrayList<>();
        List<Integer> days = new ArrayList<>();
        Predicate<Asked> expression = this::print;
        if (at == words.length) {
            prints = true;
        } else {
            expression = readOr(references, days);
            if (at < words.length) {
                throw wrongWord();
            }
        }
        for (String reference : references) {
            days.add(arrive(reference, true).item.day);
        }
        Item first = arrive(path, false).item;
        String name = lastStep(path);
        visit(new Asked(first, name.isEmpty() ? "/" : name, path), expression);
        return lines;
    }

    private Fault wrongWord() {
        place = at;
        return new Fault(SYNTAX);
    }

    private boolean sees(String word) {
        return at < words.length && words[at].equals(word);
    }

    private String next() {
        if (at == words.length) {
            throw wrongWord();
        }
        return words[at];
    }

    private Predicate<Asked> readOr(List<String> references, List<Integer> days) {
        Predicate<Asked> all = readAnd(references, days);
        while (sees("-o")) {
            at++;
            all = all.or(readAnd(references, days));
        }
        return all;
    }

    private Predicate<Asked> readAnd(List<String> references, List<Integer> days) {
        Predicate<Asked> all = readNot(references, days);
        while (at < words.length && !sees("-o") && !sees(")")) {
            at += sees("-a") ? 1 : 0;
            all = all.and(readNot(references, days));
        }
        return all;
    }

    private Predicate<Asked> readNot(List<String> references, List<Integer> days) {
        String word = next();
        if (word.equals("!")) {
            at++;
            return readNot(references, days).negate();
        }
        if (word.equals("(")) {
            at++;
            Predicate<Asked> inside = readOr(references, days);
            if (!next().equals(")")) {
                throw wrongWord();
            }
            at++;
            return inside;
        }
        return readTest(references, days);
    }

    private Predicate<Asked> readTest(List<String> references, List<Integer> days) {
        String word = words[at];
        if (!Arrays.asList("-name", "-type", "-size", "-mtime", "-links", "-newer", "-prune", "-print", "-depth")
                .contains(word)) {
            throw wrongWord();
        }
        at++;
        switch (word) {
            case "-prune":
                return a -> pruned = true;
            case "-print":
                prints = true;
                return this::print;
            case "-depth":
                deep = true;
                return a -> true;
            default:
                break;
        }
        String behind = next();
        Predicate<Asked> test;
        switch (word) {
            case "-name":
                Pattern pattern = Pattern.compile(regex(behind), Pattern.DOTALL);
                test = a -> pattern.matcher(a.name).matches();
                break;
            case "-newer":
                int index = references.size();
                references.add(behind);
                test = a -> a.item.day > days.get(index);
                break;
            case "-type":
                int kind = Arrays.asList("d", "f", "l").indexOf(behind);
                if (kind < 0) {
                    throw wrongWord();
                }
                test = a -> a.item.kind == kind;
                break;
            default:
                IntPredicate compare = number(behind);
                test = a -> compare.test(word.equals("-size") ? a.item.size
                    : word.equals("-links") ? a.item.ties : present - a.item.day);
                break;
        }
        at++;
        return test;
    }

    private IntPredicate number(String word) {
        if (!word.matches("[+-]?[0-9]{1,6}")) {
            throw wrongWord();
        }
        int n = Integer.parseInt(word.replaceFirst("^[+-]", ""));
        return word.startsWith("+") ? v -> v > n : word.startsWith("-") ? v -> v < n : v -> v == n;
    }

    /** A P as a regular expression, its sets as alternatives of single characters' codes. */
    static String regex(String p) {
        StringBuilder all = new StringBuilder();
        int i = 0;
        while (i < p.length()) {
            char c = p.charAt(i);
            int from = i + (p.startsWith("[!", i) ? 2 : 1);
            int close = c == '[' ? p.indexOf(']', from + 1) : -1;
            if (close > 0) {
                all.append(from == i + 2 ? "(?!" : "(?=").append(set(p.substring(from, close))).append(").");
                i = close;
            } else {
                all.append(c == '*' ? ".*" : c == '?' ? "." : Pattern.quote(String.valueOf(c)));
            }
            i++;
        }
        return all.toString();
    }

    private static String set(String inside) {
        StringBuilder all = new StringBuilder("(?:\\b\\B");
        String rest = inside;
        while (!rest.isEmpty()) {
            boolean span = rest.length() >= 3 && rest.charAt(1) == '-';
            for (char c = rest.charAt(0); c <= rest.charAt(span ? 2 : 0); c++) {
                all.append('|').append(Pattern.quote(String.valueOf(c)));
            }
            rest = rest.substring(span ? 3 : 1);
        }
        return all.append(')').toString();
    }

    private boolean print(Asked asked) {
        if (output.length() + asked.path.length() + 1 > 1500) {
            throw new Fault(-8);
        }
        output += asked.path + "\n";
        lines++;
        return true;
    }

    private void visit(Asked asked, Predicate<Asked> expression) {
        pruned = false;
        if (!deep) {
            ask(asked, expression);
        }
        if (asked.item.kind == 0 && (deep || !pruned)) {
            if ((asked.item.bits & 4) == 0 || (asked.item.bits & 1) == 0) {
                complaints++;
            } else {
                String front = asked.path.endsWith("/") ? asked.path : asked.path + "/";
                asked.item.names.forEach((name, item) -> visit(new Asked(item, name, front + name), expression));
            }
        }
        if (deep) {
            ask(asked, expression);
        }
    }

    private void ask(Asked asked, Predicate<Asked> expression) {
        if (expression.test(asked) && !prints) {
            print(asked);
        }
    }
}
