/** What the terms say of P. */
public final class GlobTest {
    public static void main(String[] args) {
        String[][] rows = {
            // pattern, names that match, names that don't
            {"abc", "abc", "ab abcd xabc"},
            {"*", "a abcdefghijklmn -", ""},
            {"**", "a ab", ""},
            {"?", "a - _", "ab"},
            {"a*", "a ab abc", "b ba"},
            {"*a", "a ba baa", "ab"},
            {"*a*b", "ab aab xaxb abab", "a b ba aba"},
            {"a?c*", "abc abcd axc", "ac acb"},
            {"*.t?t", "a.txt .tut", "a.tt a.txtx txt"},
            {"*??", "ab abc", "a"},
            {"[abc]", "a b c", "d ab"},
            {"[a-c]x", "ax bx cx", "dx x a"},
            {"[!a-c]", "d - 0", "a b c"},
            {"[c-a]", "", "a b c -"},
            {"[!c-a]", "a b c -", ""},
            {"[c-ax]", "x", "a b c"},
            {"[a-]", "a -", "b"},
            {"[-a]", "a -", "b"},
            {"[!-a]", "b", "a -"},
            {"[--0]", "- . 0", "1 a"},
            {"[+--]", "-", "a ."},
            {"[a--]", "", "a - b"},
            {"[a-c-e]", "a b c - e", "d"},
            {"[]a]", "a", "b"},
            {"[]-a]", "_ a", "b"},
            {"[!]a]", "b -", "a"},
            {"[]", "", "a b"},
            {"[!]", "", "a b"},
            {"[a", "", "a"},
            {"[", "", "a"},
            {"[!", "", "a"},
            {"*[", "", "a"},
            {"[a]b]", "", "ab a b"},
            {"[a-]]", "", "a -"},
            {"[*]", "", "a"},
            {"[a*]b", "ab", "aab xb"},
            {"[[]", "", "a"},
            {"[[a]", "a", "b"},
            {"[!!]", "a b", ""},
            {"[!!a]", "b", "a"},
            {"[a!]", "a", "b"},
            {"[a-a]", "a", "b"},
            {"[0-9a-f_]*", "0 9z fz _", "gz .z"},
            {"[a-c][0-9]", "a0 c9", "0a a"},
            {"*[a-c]*[0-9]", "a0 xaz9 aa9", "0a x9"},
            {"]", "", "a"},
            {"-", "-", "a"},
            {"\\a", "", "a"},
            {"A", "", "a"},
            {".*", ".a .", "a"},
            {"*a*a*a*a*a*a*a*a*a*a*a*a*a*a", "aaaaaaaaaaaaaa", "aaaaaaaaaaaaa aaaaaaaaaaaaab"},
            {"?????????????", "aaaaaaaaaaaaa", "aaaaaaaaaaaa aaaaaaaaaaaaaa"}};
        for (String[] row : rows) {
            ask(row[0], row[1], true);
            ask(row[0], row[2], false);
        }
        Probe p = new Probe();
        for (String pattern : new String[] {"/", "?", "*", "[/]", "[!a]", "[.-0]"}) {
            Probe.due("/ matches " + pattern, p.find("/ -name " + pattern), "/");
        }
        Probe.end();
    }

    private static void ask(String pattern, String names, boolean due) {
        for (String name : names.split(" ")) {
            if (!name.isEmpty()) {
                Probe p = new Probe();
                p.file(name);
                String path = "./" + name;
                Probe.due(name + " matches " + pattern, p.find(path + " -name " + pattern).equals(path), due);
            }
        }
    }
}
