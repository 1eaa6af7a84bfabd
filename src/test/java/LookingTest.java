/** Promises 1 and 13 to 18: a new object, find, node, name, body, inside, told. */
public final class LookingTest {
    private static final Due due = new Due();

    public static void main(String[] args) {
        newObject();
        rulesOfAnyNumber();
        eachRuleAlone();
        find();
        node();
        name();
        body();
        inside();
        told();
        due.end();
    }

    private static void newObject() {
        SafePaths x = new SafePaths(63);
        int[][] nodes = {{0, 0, 3, 0}, {0, 0, 0, 3}, {0, 0, 1, 4}, {2, 2, 0, 3}};
        for (int n = 0; n < nodes.length; n++) {
            for (int what = 0; what < 4; what++) {
                due.is("node(" + n + ", " + what + ")", x.node(n, what), nodes[n][what]);
            }
        }
        due.is("node(4, 0)", x.node(4, 0), -7);
        due.holds("the names", (Due.nameOf(x, 0) + Due.nameOf(x, 1) + " " + Due.nameOf(x, 2) + " " + Due.nameOf(x, 3))
            .equals("out home key"));
        int[] told = {4, 1, 0, 0, 0, 0, 0, 0};
        for (int what = 0; what < told.length; what++) {
            due.is("told(" + what + ")", x.told(what), told[what]);
        }
        due.is("size of BODY 0", x.body(0, 0), 8);
        due.is("value of BODY 0", x.body(0, 1), 42);
        due.is("files with BODY 0", x.body(0, 2), 1);
        due.holds("inside()", x.inside());
        due.is("the draft is empty", x.path(), -1);
        due.is("the draft is empty", x.target(), -1);
        due.is("limit of nodes", x.limit(0, 1), 1000000);
        due.is("limit of sizes", x.limit(1, 1), 4611686018427387904L);
    }

    private static void rulesOfAnyNumber() {
        for (int rules : new int[] {64, -64, 1 << 30, Integer.MIN_VALUE}) {
            SafePaths x = new SafePaths(rules);
            due.is("rules " + rules + " have no rule 1", Due.path(x, "\\"), 0);
            due.is("rules " + rules + " have no rule 8", Due.path(x, "con"), 1);
            due.is("rules " + rules + " have no rule 32", x.take(Due.file(x, "a/b", 1, 1)), -13);
            due.is("rules " + rules + " have no rule 4", x.take(Due.link(x, "l", "/")), -18);
        }
        for (int rules : new int[] {63, -1, 127, Integer.MAX_VALUE}) {
            SafePaths x = new SafePaths(rules);
            due.is("rules " + rules + " have rule 1", Due.path(x, "\\"), -1);
            due.is("rules " + rules + " have rule 8", Due.path(x, "con"), -4);
            due.is("rules " + rules + " have rule 32", x.take(Due.file(x, "a/b", 1, 1)), 5);
            due.is("rules " + rules + " have rules 2 and 16", x.take(Due.folder(x, "A", 0)), 4);
            due.is("rules " + rules + " have rule 4", x.take(Due.link(x, "l", "/")), 6);
        }
    }

    private static void eachRuleAlone() {
        for (int rules = 0; rules < 64; rules++) {
            String told = "rules " + rules + ": ";
            SafePaths x = new SafePaths(rules);
            due.is(told + "path \\", Due.path(x, "\\"), (rules & 1) != 0 ? -1 : 0);
            due.is(told + "path con", Due.path(x, "con") < 0 ? 1 : 0, (rules & 8) != 0 ? 1 : 0);
            x.take(Due.folder(x, "a", 0));
            int meeting = (rules & 2) == 0 ? 5 : (rules & 16) == 0 ? -12 : 4;
            due.is(told + "folder A", x.take(Due.folder(x, "A", 0)), meeting);
            int next = x.told(0);
            due.is(told + "link out", x.take(Due.link(x, "l", "/")), (rules & 4) != 0 ? next : -18);
            next = x.told(0);
            due.is(told + "file n/f", x.take(Due.file(x, "n/f", 1, 1)), (rules & 32) != 0 ? next + 1 : -13);
        }
    }

    private static void find() {
        SafePaths x = new SafePaths(34);
        x.take(Due.file(x, "d/F", 1, 1));
        x.take(Due.link(x, "l", "d"));
        String[] paths = {"d", "D", "d/F", "D/f", "l", "L", "d/F/x", "l/F", "none", "d/none", "none/F", "out", "home"};
        int[] found = {4, 4, 5, 5, 6, 6, -2, -2, -2, -2, -2, -2, -2};
        for (int n = 0; n < paths.length; n++) {
            due.is("find of " + paths[n], x.find(Due.path(x, paths[n])), found[n]);
        }
        for (int none : new int[] {-1, x.told(2), Integer.MAX_VALUE, Integer.MIN_VALUE}) {
            due.is("find(" + none + ")", x.find(none), -7);
        }
        x.take(Due.file(x, "d/F", 1, 1));
        due.is("find of d/F, made anew", x.find(Due.path(x, "d/F")), 7);
        SafePaths y = new SafePaths(48);
        y.take(Due.file(y, "d/F", 1, 1));
        due.is("without rule 2, d/F", y.find(Due.path(y, "d/F")), 5);
        due.is("without rule 2, d/f", y.find(Due.path(y, "d/f")), -2);
        due.is("without rule 2, D/F", y.find(Due.path(y, "D/F")), -2);
    }

    private static void node() {
        SafePaths x = new SafePaths(36);
        x.take(Due.file(x, "dd/f", 1, 1));
        x.take(Due.link(x, "dd/l", "f"));
        x.take(Due.link(x, "dd/m", "/"));
        x.take(Due.file(x, "dd/f", 1, 1));
        x.take(Due.folder(x, "dd/e", 1));
        x.finish();
        int[][] nodes = {{0, 1, 4, 2}, {-1, 4, -1, 1}, {3, 4, 0, 1}, {4, 4, 1, 1}, {2, 4, 2, 1}, {1, 4, 0, 1}};
        for (int n = 0; n < nodes.length; n++) {
            for (int what = 0; what < 4; what++) {
                due.is("node(" + (n + 4) + ", " + what + ")", x.node(n + 4, what), nodes[n][what]);
            }
        }
        due.is("nodes in the ROOT", x.node(1, 2), 1);
        due.is("what -1", x.node(4, -1), -7);
        due.is("what 4", x.node(4, 4), -7);
        due.is("what 4 of a GONE node", x.node(5, 4), -7);
        for (int none : new int[] {-1, 10, Integer.MAX_VALUE, Integer.MIN_VALUE}) {
            due.is("node(" + none + ", 0)", x.node(none, 0), -7);
        }
    }

    private static void name() {
        SafePaths x = new SafePaths(0);
        int f = Due.file(x, "f\u00ff", 1, 1);
        x.take(f);
        due.is("name(4, 0)", x.name(4, 0), 'f');
        due.is("name(4, 1)", x.name(4, 1), 255);
        due.is("name(4, 2)", x.name(4, 2), -1);
        due.is("name(4, -1)", x.name(4, -1), -1);
        due.is("name(0, 0)", x.name(0, 0), -1);
        due.is("name(5, 0)", x.name(5, 0), -1);
        due.is("name(-1, 0)", x.name(-1, 0), -1);
        x.take(f);
        due.is("name of a GONE node", x.name(4, 0), 'f');
    }

    private static void body() {
        SafePaths x = new SafePaths(0);
        int f = Due.file(x, "f", Integer.MIN_VALUE, 1L << 40);
        x.take(f);
        x.take(Due.hard(x, "g", "f"));
        due.is("size", x.body(1, 0), 1L << 40);
        due.is("value", x.body(1, 1), Integer.MIN_VALUE);
        due.is("files", x.body(1, 2), 2);
        x.take(f);
        due.is("files without f", x.body(1, 2), 1);
        x.take(Due.link(x, "g", "f"));
        due.is("files without f and g", x.body(1, 2), 0);
        due.is("size", x.body(1, 0), 1L << 40);
        due.is("what -1", x.body(1, -1), -7);
        due.is("what 3", x.body(1, 3), -7);
        due.is("body -1", x.body(-1, 0), -7);
        due.is("body 3", x.body(3, 0), -7);
    }

    private static void inside() {
        SafePaths x = new SafePaths(55);
        String[] links = {"/home", "../home", "..", "../..", "\\home"};
        for (int n = 0; n < links.length; n++) {
            x.take(Due.link(x, "l" + n, links[n]));
            x.take(Due.file(x, "l" + n + "/key", 1, 1));
            x.take(Due.folder(x, "l" + n, 1));
            x.take(Due.hard(x, "h" + n, "l" + n + "/key"));
        }
        x.finish();
        due.holds("inside()", x.inside());
        due.is("NODES", x.told(0), 4 + links.length);
        due.is("key", x.node(3, 0), 2);
        due.is("files with BODY 0", x.body(0, 2), 1);
    }

    private static void told() {
        SafePaths x = new SafePaths(32);
        int f = Due.file(x, "a/f", 1, 1);
        x.take(f);
        x.take(f);
        x.take(Due.link(x, "l", "a"));
        x.take(Due.device(x, "x"));
        x.take(Due.folder(x, "b", 1));
        Due.target(x, "c");
        int[] told = {9, 3, 4, 2, 4, 5, 1, 1};
        for (int what = 0; what < told.length; what++) {
            due.is("told(" + what + ")", x.told(what), told[what]);
        }
        for (int none : new int[] {-1, 8, Integer.MAX_VALUE, Integer.MIN_VALUE}) {
            due.is("told(" + none + ")", x.told(none), -7);
        }
    }
}
