/** What the terms say of P. */
public final class GlobTest {
    /** The characters that can be a NAME alone, in the order of their codes. */
    private static final String ALL = "-0123456789_abcdefghijklmnopqrstuvwxyz";

    public static void main(String[] args) {
        sets();
        themselves();
        stars();
        names();
        Probe.end();
    }

    private static void sets() {
        Probe.sentence("[ and characters, and spans like a-f, and ] one of these");
        matching("[abc]", "abc");
        matching("[cab]", "abc");
        matching("[a]", "a");
        matching("[aa]", "a");
        matching("[a-f]", "abcdef");
        matching("[a-fx0-2]", "012abcdefx");
        matching("[a-z]", "abcdefghijklmnopqrstuvwxyz");
        matching("[*]", "");
        matching("[?]", "");
        matching("[a*?]", "a");
        matching("[[a]", "a");
        matching("[[-a]", "_a");
        Probe.sentence("with ! behind the [ one but these");
        matching("[!abc]", but("abc"));
        matching("[!a-f]", but("abcdef"));
        matching("[!e]", but("e"));
        matching("[!!]", ALL);
        matching("[!!a]", but("a"));
        matching("[!!-a]", "bcdefghijklmnopqrstuvwxyz");
        matching("[a!]", "a");
        matching("[a!b]", "ab");
        Probe.sentence("a ] directly behind [ or [! is a character");
        matching("[]a]", "a");
        matching("[]]", "");
        matching("[!]]", ALL);
        matching("[!]a]", but("a"));
        matching("[]-a]", "_a");
        matching("[!]-a]", but("_a"));
        Probe.sentence("a - between two characters makes a span, empty if the first is greater");
        matching("[a-a]", "a");
        matching("[a-b]", "ab");
        matching("[b-a]", "");
        matching("[!b-a]", ALL);
        matching("[z-ab]", "b");
        matching("[-a]", "-a");
        matching("[a-]", "-a");
        matching("[-]", "-");
        matching("[!-]", but("-"));
        matching("[!-a]", but("-a"));
        matching("[!a-]", but("-a"));
        matching("[--0]", "-0");
        matching("[+--]", "-");
        matching("[a--]", "");
        matching("[---]", "-");
        matching("[--]", "-");
        matching("[0-_]", "0123456789_");
        matching("[]-]", "-");
        matching("[!]-]", but("-"));
        matching("[a-b-]", "-ab");
        matching("[-a-c]", "-abc");
        matching("[!-a-c]", but("-abc"));
        matching("[a-cx-z]", "abcxyz");
        Probe.sentence("without a ] further on, [ is itself");
        for (String open : new String[] {"[", "[a", "[!", "[!a", "[]", "[!]", "[a-", "[a-z", "[]a", "[*", "[?", "a[", "*["}) {
            matching(open, "");
        }
    }

    private static void themselves() {
        Probe.sentence("all others are themselves");
        for (int i = 0; i < ALL.length(); i++) {
            String one = ALL.substring(i, i + 1);
            matching(one, one);
        }
        for (String other : new String[] {"A", "]", "!", "\\", "\\a", "^", "+", "a]", "(", ")", "$", "/", ".", "..", "aa", "{a}"}) {
            matching(other, "");
        }
    }

    private static void stars() {
        Probe.sentence("* is any characters, also none; ? one");
        matching("*", ALL);
        matching("**", ALL);
        matching("?", ALL);
        matching("*?", ALL);
        matching("?*", ALL);
        matching("*?*", ALL);
        matching("??", "");
        matching("*??", "");
        matching("a*", "a");
        matching("*a", "a");
        matching("*a*", "a");
        matching("a?", "");
        matching("?a", "");
        matching("*[a-c]*", "abc");
    }

    private static String but(String these) {
        StringBuilder rest = new StringBuilder();
        for (char c : ALL.toCharArray()) {
            rest.append(these.indexOf(c) < 0 ? String.valueOf(c) : "");
        }
        return rest.toString();
    }

    /** Which of all characters match, each as the NAME of a file. */
    private static void matching(String pattern, String due) {
        Probe p = new Probe();
        for (int i = 0; i < ALL.length(); i++) {
            String directory = "d" + i / 12;
            if (i % 12 == 0) {
                p.dir(directory);
            }
            p.file(directory + "/" + ALL.charAt(i));
        }
        StringBuilder got = new StringBuilder();
        for (String path : p.find("/ -type f -name " + pattern).split(" ")) {
            got.append(path.isEmpty() ? "" : path.substring(path.length() - 1));
        }
        Probe.due("what matches " + pattern, got.toString(), due);
    }

    private static void names() {
        String[][] rows = {
            // pattern, names that match, names that don't
            {"abc", "abc", "ab abcd xabc"},
            {"*", "a abcdefghijklmn -", ""},
            {"**", "a ab", ""},
            {"?", "a - _", "ab"},
            {"a*", "a ab abc", "b ba"},
            {"*a", "a ba baa", "ab"},
            {"*a*b", "ab aab xaxb abab", "a b ba aba"},
            {"a?c*", "abc abcd axc", "ac acb"},
            {"*.t?t", "a.txt .tut", "a.tt a.txtx txt"},
            {"*??", "ab abc", "a"},
            {"[abc]", "a b c", "d ab"},
            {"[a-c]x", "ax bx cx", "dx x a"},
            {"[!a-c]", "d - 0", "a b c"},
            {"[c-a]", "", "a b c -"},
            {"[!c-a]", "a b c -", ""},
            {"[c-ax]", "x", "a b c"},
            {"[a-]", "a -", "b"},
            {"[-a]", "a -", "b"},
            {"[!-a]", "b", "a -"},
            {"[--0]", "- . 0", "1 a"},
            {"[+--]", "-", "a ."},
            {"[a--]", "", "a - b"},
            {"[a-c-e]", "a b c - e", "d"},
            {"[]a]", "a", "b"},
            {"[]-a]", "_ a", "b"},
            {"[!]a]", "b -", "a"},
            {"[]", "", "a b"},
            {"[!]", "", "a b"},
            {"[a", "", "a"},
            {"[", "", "a"},
            {"[!", "", "a"},
            {"*[", "", "a"},
            {"[a]b]", "", "ab a b"},
            {"[a-]]", "", "a -"},
            {"[*]", "", "a"},
            {"[a*]b", "ab", "aab xb"},
            {"[[]", "", "a"},
            {"[[a]", "a", "b"},
            {"[!!]", "a b", ""},
            {"[!!a]", "b", "a"},
            {"[a!]", "a", "b"},
            {"[a-a]", "a", "b"},
            {"[0-9a-f_]*", "0 9z fz _", "gz .z"},
            {"[a-c][0-9]", "a0 c9", "0a a"},
            {"*[a-c]*[0-9]", "a0 xaz9 aa9", "0a x9"},
            {"]", "", "a"},
            {"-", "-", "a"},
            {"\\a", "", "a"},
            {"A", "", "a"},
            {".*", ".a .", "a"},
            {"*a*a*a*a*a*a*a*a*a*a*a*a*a*a", "aaaaaaaaaaaaaa", "aaaaaaaaaaaaa aaaaaaaaaaaaab"},
            {"?????????????", "aaaaaaaaaaaaa", "aaaaaaaaaaaa aaaaaaaaaaaaaa"}};
        for (String[] row : rows) {
            ask(row[0], row[1], true);
            ask(row[0], row[2], false);
        }
        Probe p = new Probe();
        for (String pattern : new String[] {"/", "?", "*", "[/]", "[!a]", "[.-0]"}) {
            Probe.due("/ matches " + pattern, p.find("/ -name " + pattern), "/");
        }
    }

    private static void ask(String pattern, String names, boolean due) {
        for (String name : names.split(" ")) {
            if (!name.isEmpty()) {
                Probe p = new Probe();
                p.file(name);
                String path = "./" + name;
                Probe.due(name + " matches " + pattern, p.find(path + " -name " + pattern).equals(path), due);
            }
        }
    }
}
