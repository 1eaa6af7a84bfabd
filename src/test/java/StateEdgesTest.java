/** The edges that the document names of a new object and of what can be asked of one: promises 1 and 13 to 18. */
public final class StateEdgesTest {
    private static final Due due = new Due();
    private static final int[] FAR = {-1, Integer.MIN_VALUE, Integer.MAX_VALUE, -7, 200, 512};

    public static void main(String[] args) {
        atFirst();
        sixLowestBits();
        theRootAtFirst();
        findNoSuchPath();
        findNone();
        findBehindFileOrLink();
        findWhateverRule16Tells();
        nodeNoSuch();
        nodeOfEachKind();
        nodeThatIsGone();
        nodesInAFolder();
        nameNoneSuch();
        bodyNoSuch();
        bodyWithoutFiles();
        insideHolds();
        toldNoSuch();
        toldCountsEach();
        call512();
        due.end();
    }

    /** "the tree as at first; no PATHS, TARGETS, entries; an empty DRAFT; limits of 1000000 nodes and 2^62 for sizes". */
    private static void atFirst() {
        for (int rules : new int[] {0, 63, -1, 64, Integer.MIN_VALUE, Integer.MAX_VALUE}) {
            Box x = new Box(rules);
            int[] told = {4, 1, 0, 0, 0, 0, 0, 0};
            for (int what = 0; what < told.length; what++) {
                due.is("rules " + rules + ", told(" + what + ")", x.told(what), told[what]);
            }
            due.holds("inside()", x.inside());
            due.is("no node 4", x.node(4, 0), -7);
            due.is("no BODY 1", x.body(1, 0), -7);
            due.is("no PATH 0", x.find(0), -7);
            due.is("no entry 0", x.take(0), -7);
            due.is("nothing is SHUT", x.finish(), 0);
            due.is("no part in the DRAFT", x.path(), -1);
            due.is("no byte in the DRAFT", x.target(), -1);
            due.is("the first byte", x.put('a'), 1);
            due.is("the limit of nodes", x.limit(0, 0), 1000000);
            due.is("the limit of sizes", x.limit(1, 0), 4611686018427387904L);
        }
    }

    /** "of another number than 0 .. 63 the six lowest bits": each rule is as by these bits alone. */
    private static void sixLowestBits() {
        int[] numbers = {64, 65, 127, 128, -1, -2, -63, -64, -65, 1 << 16, (1 << 16) + 21, Integer.MIN_VALUE,
            Integer.MIN_VALUE + 42, Integer.MAX_VALUE, Integer.MAX_VALUE - 42};
        for (int rules = 0; rules < 64; rules++) {
            obeys(rules, rules);
        }
        for (int number : numbers) {
            obeys(number, number & 63);
        }
    }

    private static void obeys(int number, int rules) {
        String told = "rules " + number + ": ";
        Box x = new Box(number);
        due.is(told + "RULE 1", x.path("\\"), (rules & 1) != 0 ? -1 : 0);
        due.is(told + "RULE 8", x.path("nul") < 0 ? 1 : 0, (rules & 8) != 0 ? 1 : 0);
        x.takeFolder("a", 0);
        int meeting = (rules & 2) == 0 ? 5 : (rules & 16) == 0 ? -12 : 4;
        due.is(told + "RULES 2 and 16", x.takeFolder("A", 0), meeting);
        int next = x.told(0);
        due.is(told + "RULE 4", x.takeLink("l", "/"), (rules & 4) != 0 ? next : -18);
        next = x.told(0);
        due.is(told + "RULE 32", x.takeFile("n/f", 1), (rules & 32) != 0 ? next + 1 : -13);
    }

    /** "0 THE TOP, a folder, in itself, without a name; 1 the ROOT, the folder out in 0; 2 home in 0; 3 the file key in 2". */
    private static void theRootAtFirst() {
        Box x = new Box(0);
        int[][] nodes = {{0, 0, 3, 0}, {0, 0, 0, 3}, {0, 0, 1, 4}, {2, 2, 0, 3}};
        String[] names = {"", "out", "home", "key"};
        for (int node = 0; node < 4; node++) {
            for (int what = 0; what < 4; what++) {
                due.is("node(" + node + ", " + what + ")", x.node(node, what), nodes[node][what]);
            }
            due.holds("the name of node " + node, x.nameOf(node).equals(names[node]));
            due.is("the name's end", x.name(node, names[node].length()), -1);
            due.is("lead(" + node + ")", x.lead(node), node);
        }
        due.is("the size of BODY 0", x.body(0, 0), 8);
        due.is("the value of BODY 0", x.body(0, 1), 42);
        due.is("the files with BODY 0", x.body(0, 2), 1);
    }

    /** find "-7: no such PATH". */
    private static void findNoSuchPath() {
        Box x = new Box(0);
        due.is("find(0) without PATHS", x.find(0), -7);
        x.path("a");
        due.is("find(0)", x.find(0), -2);
        due.is("find(1)", x.find(1), -7);
        for (int far : FAR) {
            due.is("find(" + far + ")", x.find(far), -7);
        }
    }

    /** find "-2: none". */
    private static void findNone() {
        Box x = new Box(34);
        due.is("nothing is there", x.findPath("a"), -2);
        due.is("what is outside is not there", x.findPath("home"), -2);
        due.is("nor the ROOT in itself", x.findPath("out"), -2);
        x.takeFile("a/b/c/d/e/f/g/h", 1);
        due.is("of eight parts", x.findPath("a/b/c/d/e/f/g/h"), 11);
        due.is("of seven parts", x.findPath("a/b/c/d/e/f/g"), 10);
        due.is("another last part", x.findPath("a/b/c/d/e/f/g/i"), -2);
        due.is("another first part", x.findPath("b/b/c/d/e/f/g/h"), -2);
        due.is("from the ROOT on alone", x.findPath("b"), -2);
        due.is("the first part", x.findPath("a"), 4);
        due.is("a longer name", x.findPath("aa"), -2);
        x.takeFile("a/b/c/d/e/f/g/h", 1);
        due.is("the new file, not the GONE one", x.findPath("a/b/c/d/e/f/g/h"), 12);
    }

    /** find "or there is more behind a file or link". */
    private static void findBehindFileOrLink() {
        Box x = new Box(36);
        x.takeFile("d/f", 1);
        x.takeLink("l", "d");
        x.takeLink("m", "l");
        x.takeLink("k", "/");
        String[] paths = {"d", "d/f", "d/f/f", "d/f/x/y", "l", "l/f", "m", "m/f", "k", "k/home", "k/x"};
        int[] want = {4, 5, -2, -2, 6, -2, 7, -2, 8, -2, -2};
        for (int n = 0; n < paths.length; n++) {
            due.is("find of " + paths[n], x.findPath(paths[n]), want[n]);
        }
    }

    /** "by names that are the same or, by RULE 2, MEET (whatever RULE 16 tells)". */
    private static void findWhateverRule16Tells() {
        for (int rules = 0; rules < 64; rules++) {
            boolean rule2 = (rules & 2) != 0;
            Box x = new Box(rules);
            x.takeFolder("d", 0);
            x.takeFile("d/F", 1);
            due.is("rules " + rules + ", find of d/F", x.findPath("d/F"), 5);
            due.is("rules " + rules + ", find of D/F", x.findPath("D/F"), rule2 ? 5 : -2);
            due.is("rules " + rules + ", find of d/f", x.findPath("d/f"), rule2 ? 5 : -2);
            due.is("rules " + rules + ", find of D", x.findPath("D"), rule2 ? 4 : -2);
        }
    }

    /** node "-7: no such node, or what". */
    private static void nodeNoSuch() {
        Box x = new Box(0);
        x.takeFile("f", 1);
        for (int what = 0; what < 4; what++) {
            due.holds("node(4, " + what + ")", x.node(4, what) >= 0);
            due.is("node(5, " + what + ")", x.node(5, what), -7);
            for (int far : FAR) {
                due.is("node(" + far + ", " + what + ")", x.node(far, what), -7);
            }
        }
        for (int what : new int[] {-1, 4, 5, Integer.MIN_VALUE, Integer.MAX_VALUE}) {
            due.is("node(0, " + what + ")", x.node(0, what), -7);
            due.is("node(4, " + what + ")", x.node(4, what), -7);
            due.is("node(5, " + what + ")", x.node(5, what), -7);
        }
    }

    /** "0 an open folder, 1 a SHUT one, 2 a file, 3 a link, 4 a DEAD one"; "2 its BODY, TARGET, how many nodes are in it". */
    private static void nodeOfEachKind() {
        Box x = new Box(36);
        x.target("unused");
        x.takeFolder("open", 0);
        x.takeFolder("shut", 1);
        x.takeFile("file", 1);
        x.takeLink("link", "file");
        x.takeLink("dead", "/");
        x.takeHard("shut/0123456789abcdef", "file");
        x.finish();
        int[][] nodes = {{0, 1, 0, 4}, {1, 1, 1, 4}, {2, 1, 1, 4}, {3, 1, 1, 4}, {4, 1, 2, 4}, {2, 5, 1, 16}};
        for (int n = 0; n < nodes.length; n++) {
            for (int what = 0; what < 4; what++) {
                due.is("node(" + (4 + n) + ", " + what + ")", x.node(4 + n, what), nodes[n][what]);
            }
        }
    }

    /** "-1 GONE; 1 the folder that it is (was) in; 2 ... -1 (GONE)". */
    private static void nodeThatIsGone() {
        Box x = new Box(36);
        int file = x.file("d/name", 1);
        int link = x.link("d/name", "x");
        int dead = x.link("d/name", "/");
        x.take(file);
        x.take(link);
        x.take(dead);
        x.take(file);
        for (int node = 5; node < 8; node++) {
            due.is("node " + node + " is GONE", x.node(node, 0), -1);
            due.is("it was in", x.node(node, 1), 4);
            due.is("it has nothing", x.node(node, 2), -1);
            due.is("its name had", x.node(node, 3), 4);
            due.holds("its name was", x.nameOf(node).equals("name"));
            due.is("it leads", x.lead(node), -7);
            due.is("no such what", x.node(node, 4), -7);
            due.is("no such what", x.node(node, -1), -7);
        }
        due.is("the one that is there", x.node(8, 0), 2);
    }

    private static void nodesInAFolder() {
        Box x = new Box(32);
        due.is("in the ROOT at first", x.node(1, 2), 0);
        int f = x.file("d/f", 1);
        x.take(f);
        due.is("in the ROOT", x.node(1, 2), 1);
        due.is("in d", x.node(4, 2), 1);
        x.take(f);
        due.is("in d, the GONE one does not count", x.node(4, 2), 1);
        x.takeFolder("d/e", 0);
        x.takeLink("d/l", "e");
        x.takeFile("d/e/f", 1);
        due.is("in d, what is further down does not count", x.node(4, 2), 3);
        due.is("in d/e", x.node(7, 2), 1);
        due.is("in home", x.node(2, 2), 1);
        due.is("in THE TOP, itself among them", x.node(0, 2), 3);
    }

    /** "Byte i of a node's name; -1: none such". */
    private static void nameNoneSuch() {
        Box x = new Box(0);
        x.takeFile("0123456789abcde\u00ff", 1);
        due.is("the first byte", x.name(4, 0), '0');
        due.is("the last byte", x.name(4, 15), 255);
        due.is("behind the last byte", x.name(4, 16), -1);
        due.is("before the first byte", x.name(4, -1), -1);
        due.is("a node without a name", x.name(0, 0), -1);
        due.is("no such node", x.name(5, 0), -1);
        for (int far : FAR) {
            due.is("name(" + far + ", 0)", x.name(far, 0), -1);
            due.is("name(4, " + far + ")", x.name(4, far), -1);
        }
    }

    /** body "-7: no such". */
    private static void bodyNoSuch() {
        Box x = new Box(0);
        x.takeFile("f", 3);
        for (int what = 0; what < 3; what++) {
            due.is("body(2, " + what + ")", x.body(2, what), -7);
            for (int far : FAR) {
                due.is("body(" + far + ", " + what + ")", x.body(far, what), -7);
            }
        }
        for (int what : new int[] {-1, 3, 4, Integer.MIN_VALUE, Integer.MAX_VALUE}) {
            due.is("body(0, " + what + ")", x.body(0, what), -7);
            due.is("body(1, " + what + ")", x.body(1, what), -7);
        }
    }

    /** "its size (what = 0), its value (1), how many files that are not GONE have it (2)". */
    private static void bodyWithoutFiles() {
        long[] sizes = {0, 1, (1L << 31), (1L << 32) + 1, 1L << 40};
        int[] values = {0, -1, -7, Integer.MIN_VALUE, Integer.MAX_VALUE};
        Box x = new Box(0);
        x.path("f");
        x.path("h");
        x.path("g");
        for (int n = 0; n < sizes.length; n++) {
            x.take(x.entry(1, 0, values[n], sizes[n]));
            due.is("size", x.body(n + 1, 0), sizes[n]);
            due.is("value", x.body(n + 1, 1), values[n]);
            due.is("files", x.body(n + 1, 2), 1);
            due.is("files of the one before", x.body(n, 2), n == 0 ? 1 : 0);
        }
        x.take(x.entry(3, 1, 0, 0));
        x.take(x.entry(3, 2, 1, 0));
        due.is("three files", x.body(5, 2), 3);
        int link = x.entry(2, 0, x.target("g"), 0);
        x.take(link);
        due.is("two files", x.body(5, 2), 2);
        x.take(x.entry(3, 1, 2, 0));
        due.is("two files still", x.body(5, 2), 2);
        x.take(x.entry(2, 1, 0, 0));
        x.take(x.entry(2, 2, 0, 0));
        due.is("no file", x.body(5, 2), 0);
        due.is("the size stays", x.body(5, 0), 1L << 40);
        due.is("the value stays", x.body(5, 1), Integer.MAX_VALUE);
        due.is("BODIES", x.told(1), 6);
    }

    /** "nodes 0, 2 and 3 are as at first, 1 is the folder out in 0, and all others that are not GONE are below 1". */
    private static void insideHolds() {
        for (int rules = 0; rules < 64; rules++) {
            Box x = new Box(rules);
            String[] targets = {"/home", "../home/key", "..", "\\home", "x/../../home"};
            for (int n = 0; n < targets.length; n++) {
                String link = "l" + n;
                x.takeLink(link, targets[n]);
                x.takeFile(link + "/key", 9);
                x.takeFolder(link, 1);
                x.takeHard("h" + n, link + "/key");
                x.takeFile("home/key", 7);
            }
            x.finish();
            due.holds("rules " + rules + ", inside()", x.inside());
            int[][] nodes = {{0, 0, 3, 0}, {0, 0, -1, 3}, {0, 0, 1, 4}, {2, 2, 0, 3}};
            for (int node = 0; node < 4; node++) {
                for (int what = 0; what < 4; what++) {
                    if (nodes[node][what] >= 0) {
                        due.is("node(" + node + ", " + what + ")", x.node(node, what), nodes[node][what]);
                    }
                }
            }
            due.is("the files with BODY 0", x.body(0, 2), 1);
            for (int node = 4; node < x.told(0); node++) {
                due.holds("node " + node + " is in the ROOT or behind it", x.node(node, 1) == 1 || x.node(node, 1) > 3);
            }
        }
    }

    /** told "-7: another what". */
    private static void toldNoSuch() {
        Box x = new Box(0);
        for (int what : new int[] {-1, 8, 9, Integer.MIN_VALUE, Integer.MAX_VALUE}) {
            due.is("told(" + what + ")", x.told(what), -7);
        }
        due.is("told(7)", x.told(7), 0);
    }

    private static void tells(Box x, String when, int... want) {
        for (int what = 0; what < want.length; what++) {
            due.is("told(" + what + ") " + when, x.told(what), want[what]);
        }
    }

    private static void toldCountsEach() {
        Box x = new Box(32);
        int f = x.file("a/f", 1);
        tells(x, "with an entry", 4, 1, 1, 0, 1, 0, 0, 0);
        x.take(f);
        tells(x, "with a file on its way", 6, 2, 1, 0, 1, 2, 0, 0);
        x.take(f);
        tells(x, "with a file in its place", 7, 3, 1, 0, 1, 3, 0, 0);
        x.takeHard("h", "a/f");
        tells(x, "with a hard one", 8, 3, 3, 0, 2, 4, 0, 0);
        x.takeLink("l", "h");
        tells(x, "with a link", 9, 3, 4, 1, 3, 5, 0, 0);
        int device = x.device("x");
        x.take(device);
        x.take(device);
        tells(x, "with a device, taken twice", 9, 3, 5, 1, 4, 5, 2, 0);
        int d = x.folder("d", 1);
        x.take(d);
        x.take(d);
        tells(x, "with a folder, taken twice", 10, 3, 6, 1, 5, 6, 2, 2);
        x.finish();
        tells(x, "after finish()", 10, 3, 6, 1, 5, 6, 2, 0);
    }

    /** "An object is used for at most 512 calls after it has been made": the 512th still answers as due. */
    private static void call512() {
        Box x = new Box(0);
        int d = x.folder("d", 1);
        while (x.callsLeft() > 2) {
            due.is("the folder, with " + x.callsLeft() + " calls left", x.take(d), 4);
        }
        due.is("NOTED, as call 511", x.told(7), 507);
        due.is("SHUT, as call 512", x.finish(), 1);
        Box y = new Box(0);
        int device = y.device("x");
        while (y.callsLeft() > 1) {
            y.take(device);
        }
        due.is("LISTED, as call 512", y.told(6), 508);
        Box z = new Box(0);
        while (z.callsLeft() > 1) {
            z.path("");
        }
        due.is("put, as call 512", z.put('a'), 1);
    }
}
