/** Promises 2 to 6: put, path, part, meets, target. */
public final class NamesTest {
    private static final Due due = new Due();

    public static void main(String[] args) {
        put();
        pathsThatAre();
        pathsWithoutParts();
        pathsThatAreNotRelative();
        pathsThatGoUp();
        pathsWithBadBytes();
        pathsOfOtherSystems();
        pathsTooLong();
        orderOfRefusals();
        sixtyPaths();
        part();
        meets();
        target();
        due.end();
    }

    private static void isPath(int rules, String text, int want) {
        SafePaths x = new SafePaths(rules);
        due.is("rules " + rules + ", path \"" + text + "\"", Due.path(x, text), want);
        due.is("the draft after it", x.put(97), 1);
        due.is("the paths after it", x.told(2), want == 0 ? 1 : 0);
    }

    private static void put() {
        SafePaths x = new SafePaths(0);
        due.is("put(-1)", x.put(-1), -5);
        due.is("put(256)", x.put(256), -5);
        due.is("put(least)", x.put(Integer.MIN_VALUE), -5);
        due.is("put(0)", x.put(0), 1);
        due.is("put(255)", x.put(255), 2);
        for (int n = 3; n <= 160; n++) {
            due.is("put number " + n, x.put(97), n);
        }
        due.is("put number 161", x.put(97), -5);
        due.is("put number 161 again", x.put(47), -5);
        due.is("a path of them", x.path(), -4);
        due.is("put after path", x.put(97), 1);
    }

    private static void pathsThatAre() {
        isPath(0, "a", 0);
        isPath(0, "a/b", 0);
        isPath(0, "./a//b/./", 0);
        isPath(0, "a/...", 0);
        isPath(0, "..a/a../.b", 0);
        isPath(0, "\\", 0);
        isPath(0, "\\a", 0);
        isPath(0, "a\\..\\b", 0);
        isPath(1, "a\\b/c", 0);
        isPath(0, " !~\u0080\u00ff", 0);
        isPath(0, "1:", 0);
        isPath(0, "@:", 0);
        isPath(0, "[:", 0);
        isPath(0, "`:", 0);
        isPath(0, "{:", 0);
        isPath(0, "ab:", 0);
        isPath(0, "a/b:", 0);
    }

    private static void pathsWithoutParts() {
        isPath(0, "", -1);
        isPath(0, ".", -1);
        isPath(0, "./.", -1);
        isPath(0, "/", -1);
        isPath(0, "//./", -1);
        isPath(1, "\\", -1);
        isPath(1, ".\\.", -1);
    }

    private static void pathsThatAreNotRelative() {
        isPath(0, "/a", -2);
        isPath(1, "\\a", -2);
        isPath(0, "c:", -2);
        isPath(0, "C:/a", -2);
        isPath(0, "a:", -2);
        isPath(0, "z:", -2);
        isPath(0, "A:", -2);
        isPath(0, "Z:x", -2);
    }

    private static void pathsThatGoUp() {
        isPath(0, "..", -3);
        isPath(0, "a/..", -3);
        isPath(0, "a/../b", -3);
        isPath(1, "a\\..\\b", -3);
    }

    private static void pathsWithBadBytes() {
        isPath(0, "a\u0000", -4);
        isPath(0, "a/\u001f/b", -4);
        isPath(0, "a/b\u007f", -4);
        isPath(0, "a b", 0);
    }

    private static void pathsOfOtherSystems() {
        for (String mark : new String[] {":", "*", "?", "\"", "<", ">", "|"}) {
            isPath(8, "ab" + mark + "c", -4);
            isPath(8, mark + "ab", -4);
            isPath(8, "ab" + mark, -4);
            isPath(55, "ab" + mark + "c", 0);
        }
        for (String bad : new String[] {"a.", "a ", "...", " ", "a/b ./c", "a /b"}) {
            isPath(8, bad, -4);
            isPath(0, bad, 0);
        }
        for (String word : new String[] {"con", "PRN", "aUx", "nul", "com1", "COM9", "lpt1", "Lpt5"}) {
            isPath(8, word, -4);
            isPath(8, "a/" + word + ".x.y/b", -4);
            isPath(8, word + "x", 0);
            isPath(8, "x" + word, 0);
            isPath(8, "." + word, 0);
            isPath(8, word + " .x", 0);
            isPath(0, word, 0);
        }
        for (String fine : new String[] {"com", "lpt", "com0", "lpt0", "com10", "con1", "coma", "co", "c", "nuln", "cxn",
            "xon", "cox", "cpt1", "lom1", "lpm1", "onp", ".x", "a.b c", "\u00ff", "prnaux", "a.con", "con-.x"}) {
            isPath(8, fine, 0);
        }
        isPath(8, "com:", -4);
    }

    private static void pathsTooLong() {
        isPath(0, "0123456789abcdef", 0);
        isPath(0, "0123456789abcdefg", -5);
        isPath(0, "a/0123456789abcdefg/b", -5);
        isPath(0, "a/b/c/d/e/f/g/h", 0);
        isPath(0, "a/b/c/d/e/f/g/h/i", -5);
        isPath(0, "./a//b/c/./d/e/f/g/h/.", 0);
    }

    private static void orderOfRefusals() {
        isPath(0, "/..", -2);
        isPath(0, "c:/..", -2);
        isPath(0, "\u0001/..", -3);
        isPath(0, "0123456789abcdefg/..", -3);
        isPath(0, "a/b/c/d/e/f/g/h/..", -3);
        isPath(0, "0123456789abcdefg/\u0001", -4);
        isPath(0, "0123456789abcdefg\u0001", -4);
        isPath(8, "a/b/c/d/e/f/g/h/con", -4);
    }

    private static void sixtyPaths() {
        SafePaths x = new SafePaths(0);
        for (int n = 0; n < 60; n++) {
            due.is("path number " + n, Due.path(x, "a"), n);
        }
        due.is("path number 60", Due.path(x, "a"), -6);
        due.is("the draft after it", x.put(97), 1);
        x.target();
        due.is("-1 comes before -6", Due.path(x, ""), -1);
        due.is("-2 comes before -6", Due.path(x, "/a"), -2);
        due.is("-3 comes before -6", Due.path(x, ".."), -3);
        due.is("-4 comes before -6", Due.path(x, "\u0001"), -4);
        due.is("-5 comes before -6", Due.path(x, "0123456789abcdefg"), -5);
        due.is("told(2)", x.told(2), 60);
    }

    private static void part() {
        SafePaths x = new SafePaths(1);
        Due.path(x, "./ab\\c//\u00ffd/.");
        due.is("part(0, 0, 0)", x.part(0, 0, 0), 'a');
        due.is("part(0, 0, 1)", x.part(0, 0, 1), 'b');
        due.is("part(0, 0, 2)", x.part(0, 0, 2), -1);
        due.is("part(0, 0, -1)", x.part(0, 0, -1), -1);
        due.is("part(0, 1, 0)", x.part(0, 1, 0), 'c');
        due.is("part(0, 2, 0)", x.part(0, 2, 0), 255);
        due.is("part(0, 2, 1)", x.part(0, 2, 1), 'd');
        due.is("part(0, 3, 0)", x.part(0, 3, 0), -1);
        due.is("part(0, -1, 0)", x.part(0, -1, 0), -1);
        due.is("part(1, 0, 0)", x.part(1, 0, 0), -1);
        due.is("part(-1, 0, 0)", x.part(-1, 0, 0), -1);
        due.is("part(most, most, most)", x.part(Integer.MAX_VALUE, Integer.MAX_VALUE, Integer.MAX_VALUE), -1);
    }

    private static void doMeet(int rules, String a, String b, int want) {
        SafePaths x = new SafePaths(rules);
        Due.path(x, a);
        Due.path(x, b);
        due.is("rules " + rules + ", " + a + " meets " + b, x.meets(0, 1), want);
        due.is("rules " + rules + ", " + b + " meets " + a, x.meets(1, 0), want);
    }

    private static void meets() {
        doMeet(0, "a/b", "./a//b", 1);
        doMeet(0, "a/b", "a/B", 0);
        doMeet(61, "a", "A", 0);
        doMeet(2, "a/b", "A/b", 1);
        doMeet(2, "aZ/zA", "Az/Za", 1);
        doMeet(2, "a/b", "a", 0);
        doMeet(2, "a/b", "ab", 0);
        doMeet(2, "a", "ab", 0);
        doMeet(2, "@", "`", 0);
        doMeet(2, "[", "{", 0);
        doMeet(2, "\u00c4", "\u00e4", 0);
        doMeet(2, "0", "P", 0);
        SafePaths x = new SafePaths(2);
        due.is("meets(0, 0) without paths", x.meets(0, 0), -7);
        Due.path(x, "a");
        due.is("meets(0, 0)", x.meets(0, 0), 1);
        due.is("meets(0, 1)", x.meets(0, 1), -7);
        due.is("meets(1, 0)", x.meets(1, 0), -7);
        due.is("meets(-1, 0)", x.meets(-1, 0), -7);
        due.is("meets(0, -1)", x.meets(0, -1), -7);
    }

    private static void target() {
        SafePaths x = new SafePaths(0);
        String forty = "0123456789012345678901234567890123456789";
        due.is("target of no bytes", x.target(), -1);
        due.is("target of 41 bytes", Due.target(x, forty + "a"), -1);
        due.is("the draft after a refusal", x.put(47), 1);
        due.is("target /", x.target(), 0);
        due.is("target of 40 bytes", Due.target(x, forty), 1);
        due.is("target of any bytes", Due.target(x, "\u0000/../\u007f:*"), 2);
        due.is("target .", Due.target(x, "."), 3);
        for (int n = 4; n < 40; n++) {
            due.is("target number " + n, Due.target(x, "a"), n);
        }
        due.is("target number 40", Due.target(x, "a"), -6);
        due.is("the draft after it", x.put(97), 1);
        x.path();
        due.is("-1 comes before -6", x.target(), -1);
        due.is("told(3)", x.told(3), 40);
        due.is("told(2)", x.told(2), 1);
    }
}
