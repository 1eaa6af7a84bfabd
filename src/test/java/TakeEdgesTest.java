/** The edges that the document names of entries and of taking them: promises 7 to 11. */
public final class TakeEdgesTest {
    private static final Due due = new Due();
    private static final long GREATEST = 1L << 40;

    public static void main(String[] args) {
        noSuchKind();
        noSuchPath();
        noSuchRight();
        noSuchSize();
        noSuchTarget();
        noSuchOtherPath();
        deviceLooksAtNothing();
        hundredEntries();
        entryRefusalsThatMeet();
        noSuchEntry();
        aPartThatIsNone();
        foldersComeOpen();
        theWayMeets();
        theWayHasALinkOrFile();
        theWayMayBeShut();
        lastPartMeets();
        folderIsThere();
        folderNotes();
        fileTakesAPlace();
        shutFolderRefuses();
        hardLeadsToNoFile();
        hardByMeetingNames();
        hardIsTheVeryNode();
        deviceIsListed();
        dryIsZeroForANode();
        finishWithNothingNoted();
        finishInOrder();
        finishCountsAllShut();
        limitNoSuch();
        limitOfNodes();
        limitOfNodesCountsTheWay();
        limitOfNodesFromTheBeginning();
        limitOfSizes();
        limitOfSizesCountsFilesAlone();
        limitOfSizesSumsUp();
        largestLimits();
        twoHundredNodes();
        twoHundredNodesWithTheWay();
        nothingComesBeyondLimits();
        takenAgain();
        due.end();
    }

    /** Asks dry() first, which must tell the same. */
    private static int take(Box x, String what, int entry, int want) {
        due.is("dry of " + what, x.dry(entry), Math.min(want, 0));
        int answer = x.take(entry);
        due.is("take of " + what, answer, want);
        return answer;
    }

    /** PATHS 0 (a) and 1 (b), TARGETS 0 and 1. */
    private static Box withPaths() {
        Box x = new Box(0);
        x.path("a");
        x.path("b");
        x.target("a");
        x.target("b");
        return x;
    }

    /** "-7: no such kind". */
    private static void noSuchKind() {
        Box x = withPaths();
        for (int kind : new int[] {-1, 5, 6, Integer.MIN_VALUE, Integer.MAX_VALUE}) {
            due.is("kind " + kind, x.entry(kind, 0, 0, 0), -7);
        }
        for (int kind = 0; kind < 5; kind++) {
            due.is("kind " + kind, x.entry(kind, 0, 0, 0), kind);
        }
    }

    private static void noSuchPath() {
        Box none = new Box(0);
        Box x = withPaths();
        for (int kind = 0; kind < 5; kind++) {
            due.is("kind " + kind + " without PATHS", none.entry(kind, 0, 0, 0), -7);
            for (int path : new int[] {-1, 2, Integer.MIN_VALUE, Integer.MAX_VALUE}) {
                due.is("kind " + kind + ", path " + path, x.entry(kind, path, 0, 0), -7);
            }
        }
        due.is("told(4)", x.told(4), 0);
        due.is("the last path", x.entry(1, 1, 0, 0), 0);
    }

    /** "with is its right (0 open, 1 SHUT)". */
    private static void noSuchRight() {
        Box x = withPaths();
        for (int right : new int[] {-1, 2, 3, Integer.MIN_VALUE, Integer.MAX_VALUE}) {
            due.is("right " + right, x.entry(0, 0, right, 0), -7);
        }
        due.is("right 0", x.entry(0, 0, 0, 0), 0);
        due.is("right 1", x.entry(0, 0, 1, 0), 1);
    }

    /** "size 0 .. 2^40"; "of others than files it is not looked at". */
    private static void noSuchSize() {
        Box x = withPaths();
        long[] none = {-1, GREATEST + 1, Long.MIN_VALUE, Long.MAX_VALUE, 1L << 41, -GREATEST, 1L << 62};
        for (long size : none) {
            due.is("size " + size, x.entry(1, 0, 0, size), -7);
        }
        due.is("size 0", x.entry(1, 0, 0, 0), 0);
        due.is("size 2^40", x.entry(1, 0, 0, GREATEST), 1);
        due.is("size 2^40 - 1", x.entry(1, 0, 0, GREATEST - 1), 2);
        due.is("size 2^32", x.entry(1, 0, 0, 1L << 32), 3);
        int next = 4;
        for (long size : none) {
            for (int kind : new int[] {0, 2, 3, 4}) {
                due.is("size " + size + " of kind " + kind, x.entry(kind, 0, 0, size), next++);
            }
        }
        due.is("any value", x.entry(1, 0, Integer.MIN_VALUE, 0), next++);
        due.is("any value", x.entry(1, 0, Integer.MAX_VALUE, 0), next);
    }

    private static void noSuchTarget() {
        Box none = new Box(0);
        none.path("a");
        due.is("a link without TARGETS", none.entry(2, 0, 0, 0), -7);
        Box x = withPaths();
        x.path("c");
        for (int target : new int[] {-1, 2, Integer.MIN_VALUE, Integer.MAX_VALUE}) {
            due.is("target " + target, x.entry(2, 0, target, 0), -7);
        }
        due.is("the last target", x.entry(2, 0, 1, 0), 0);
    }

    private static void noSuchOtherPath() {
        Box x = withPaths();
        x.target("c");
        for (int path : new int[] {-1, 2, Integer.MIN_VALUE, Integer.MAX_VALUE}) {
            due.is("other path " + path, x.entry(3, 0, path, 0), -7);
        }
        due.is("the last path", x.entry(3, 0, 1, 0), 0);
        due.is("its own path", x.entry(3, 0, 0, 0), 1);
    }

    /** "4 device (with is nothing)". */
    private static void deviceLooksAtNothing() {
        Box x = withPaths();
        int next = 0;
        for (int with : new int[] {-1, 0, 2, 99, Integer.MIN_VALUE, Integer.MAX_VALUE}) {
            due.is("device with " + with, x.entry(4, 0, with, -1), next++);
        }
    }

    /** "-6: there are 100". */
    private static void hundredEntries() {
        Box x = withPaths();
        due.is("a refused one does not count", x.entry(5, 0, 0, 0), -7);
        for (int n = 0; n < 100; n++) {
            due.is("entry number " + n, x.entry(n % 5, 0, 0, 0), n);
        }
        due.is("told(4)", x.told(4), 100);
        for (int kind = 0; kind < 5; kind++) {
            due.is("entry number 100, of kind " + kind, x.entry(kind, 0, 0, 0), -6);
        }
        due.is("told(4)", x.told(4), 100);
        due.is("the last one", x.dry(99), -20);
        due.is("none behind it", x.dry(100), -7);
        due.is("none behind it", x.take(100), -7);
    }

    private static void entryRefusalsThatMeet() {
        Box x = withPaths();
        for (int n = 0; n < 100; n++) {
            x.entry(4, 0, 0, 0);
        }
        due.is("kind beyond 100", x.entry(5, 0, 0, 0), -7);
        due.is("path beyond 100", x.entry(0, 2, 0, 0), -7);
        due.is("right beyond 100", x.entry(0, 0, 2, 0), -7);
        due.is("size beyond 100", x.entry(1, 0, 0, -1), -7);
        due.is("target beyond 100", x.entry(2, 0, 2, 0), -7);
        due.is("other path beyond 100", x.entry(3, 0, 2, 0), -7);
        due.is("all is well beyond 100", x.entry(3, 0, 1, 0), -6);
    }

    /** "-7: no such entry". */
    private static void noSuchEntry() {
        Box x = withPaths();
        due.is("take(0) without entries", x.take(0), -7);
        due.is("dry(0) without entries", x.dry(0), -7);
        x.entry(0, 0, 0, 0);
        for (int none : new int[] {-1, 1, 100, Integer.MIN_VALUE, Integer.MAX_VALUE}) {
            due.is("take(" + none + ")", x.take(none), -7);
            due.is("dry(" + none + ")", x.dry(none), -7);
        }
        due.is("take(0)", x.take(0), 4);
    }

    /** "a part that is none IN the folder: refused -13 without RULE 32 ... else a folder, open, comes there". */
    private static void aPartThatIsNone() {
        for (int rules = 0; rules < 64; rules++) {
            boolean rule32 = (rules & 32) != 0;
            Box x = new Box(rules);
            take(x, "a/f, rules " + rules, x.file("a/f", 1), rule32 ? 5 : -13);
            due.is("NODES", x.told(0), rule32 ? 6 : 4);
            take(x, "f alone", x.file("f", 1), rule32 ? 6 : 4);
        }
        Box x = new Box(32);
        take(x, "names outside of the ROOT are none in it", x.file("home/key", 1), 5);
        take(x, "the ROOT's own name is none in it", x.file("out/f", 1), 7);
        due.is("home is in the ROOT", x.node(4, 1), 1);
        due.is("the key outside has its BODY", x.node(3, 2), 0);
        take(x, "what is in another folder is none here", x.file("out/home/f", 1), 9);
        due.is("NODES", x.told(0), 10);
    }

    private static void foldersComeOpen() {
        Box x = new Box(32);
        take(x, "of eight parts", x.file("a/b/c/d/e/f/g/h", 1), 11);
        for (int node = 4; node < 11; node++) {
            due.is("an open folder", x.node(node, 0), 0);
            due.is("in the one before it", x.node(node, 1), node == 4 ? 1 : node - 1);
            due.is("its name", x.name(node, 0), 'a' + node - 4);
            due.is("of one byte", x.node(node, 3), 1);
        }
        due.is("the file", x.node(11, 0), 2);
        due.is("made", x.told(5), 8);
        due.is("no right is NOTED for the folders on the way", x.told(7), 0);
        take(x, "a SHUT folder behind a new one", x.folder("i/j", 1), 13);
        due.is("NOTED", x.told(7), 1);
        due.is("SHUT", x.finish(), 1);
        due.is("the folder on the way is open", x.node(12, 0), 0);
        due.is("the folder itself is SHUT", x.node(13, 0), 1);
    }

    /** "one that MEETS a node without being its name: -12 without RULE 16". */
    private static void theWayMeets() {
        for (int rules = 0; rules < 64; rules++) {
            boolean rule2 = (rules & 2) != 0;
            boolean rule16 = (rules & 16) != 0;
            boolean rule32 = (rules & 32) != 0;
            Box x = new Box(rules);
            x.takeFolder("d", 0);
            int other = rule32 ? 6 : -13;
            take(x, "D/f, rules " + rules, x.file("D/f", 1), rule2 ? rule16 ? 5 : -12 : other);
            take(x, "d/g, rules " + rules, x.file("d/g", 1), x.told(0));
        }
        Box x = new Box(2);
        x.takeFolder("a", 0);
        x.takeFolder("a/b", 0);
        take(x, "A/b/f", x.file("A/b/f", 1), -12);
        take(x, "a/B/f", x.file("a/B/f", 1), -12);
        take(x, "a/b/f", x.file("a/b/f", 1), 6);
    }

    /** "a link, DEAD or not: -14; a file: -15". */
    private static void theWayHasALinkOrFile() {
        Box x = new Box(36);
        x.takeFolder("d", 0);
        x.takeFile("d/f", 1);
        x.takeLink("d/l", ".");
        x.takeLink("d/m", "none");
        x.takeLink("d/k", "/");
        x.takeLink("d/r", "r");
        String[] parts = {"f", "l", "m", "k", "r"};
        for (String part : parts) {
            int want = part.equals("f") ? -15 : -14;
            take(x, "file behind " + part, x.file("d/" + part + "/x", 1), want);
            take(x, "folder far behind " + part, x.folder("d/" + part + "/x/y", 1), want);
            take(x, "device behind " + part, x.device("d/" + part + "/x"), want);
        }
        due.is("NODES", x.told(0), 10);
        due.is("LISTED", x.told(6), 0);
        due.is("NOTED", x.told(7), 1);
    }

    /** A SHUT folder on the way only refuses what would come in it. */
    private static void theWayMayBeShut() {
        Box x = new Box(32);
        x.takeFolder("s/d", 0);
        x.takeFolder("s", 1);
        x.finish();
        take(x, "s/d/f", x.file("s/d/f", 1), 6);
        take(x, "s/d/e/f", x.file("s/d/e/f", 1), 8);
        take(x, "s/f", x.file("s/f", 1), -16);
        take(x, "s/e/f", x.file("s/e/f", 1), -16);
        take(x, "s/e/e/f", x.folder("s/e/e/f", 1), -16);
        take(x, "folder s/d", x.folder("s/d", 1), 5);
        take(x, "folder s", x.folder("s", 0), 4);
        x.finish();
        take(x, "s/f when s is open again", x.file("s/f", 1), 9);
        take(x, "s/d/g when s/d is SHUT", x.file("s/d/g", 1), -16);
    }

    /** "Then, by the last part IN that folder: likewise -12". */
    private static void lastPartMeets() {
        Box x = new Box(6);
        x.takeFolder("d", 0);
        x.takeFile("f", 1);
        x.takeLink("l", "d");
        for (String name : new String[] {"D", "F", "L"}) {
            take(x, "folder " + name, x.folder(name, 0), -12);
            take(x, "file " + name, x.file(name, 1), -12);
            take(x, "link " + name, x.link(name, "d"), -12);
            take(x, "hard " + name, x.hard(name, "f"), -12);
            take(x, "device " + name, x.device(name), -12);
        }
        due.is("LISTED", x.told(6), 0);
        due.is("NOTED", x.told(7), 1);
        Box y = new Box(22);
        y.takeFolder("d", 0);
        y.takeFile("f", 1);
        take(y, "folder D by RULE 16", y.folder("D", 0), 4);
        take(y, "file F by RULE 16", y.file("F", 1), 6);
        due.is("f is GONE", y.node(5, 0), -1);
        due.holds("the new one has its PATH's name", y.nameOf(6).equals("F"));
        due.holds("d keeps its name", y.nameOf(4).equals("d"));
        take(y, "file D by RULE 16", y.file("D", 1), -17);
        take(y, "link f by RULE 16", y.link("f", "d"), 7);
        take(y, "hard F by RULE 16: no file is there now", y.hard("F", "f"), -19);
    }

    /** "folder: a folder is there: that is it; another node: -17; none: ... it comes". */
    private static void folderIsThere() {
        Box x = new Box(4);
        int d = x.folder("d", 1);
        take(x, "d", d, 4);
        take(x, "d again", d, 4);
        due.is("NODES", x.told(0), 5);
        due.is("made", x.told(5), 1);
        x.takeFile("f", 1);
        x.takeLink("l", "d");
        x.takeLink("k", "/");
        for (String name : new String[] {"f", "l", "k"}) {
            take(x, "folder " + name, x.folder(name, 0), -17);
        }
        x.finish();
        take(x, "d when it is SHUT", d, 4);
        due.is("d is still SHUT", x.node(4, 0), 1);
    }

    /** "In both cases its right is NOTED." */
    private static void folderNotes() {
        Box x = new Box(0);
        int open = x.folder("d", 0);
        int shut = x.folder("d", 1);
        due.is("NOTED at first", x.told(7), 0);
        x.take(shut);
        due.is("NOTED when it comes", x.told(7), 1);
        due.is("it is open yet", x.node(4, 0), 0);
        x.take(shut);
        due.is("NOTED when it is there", x.told(7), 2);
        x.take(open);
        due.is("NOTED for an open one, too", x.told(7), 3);
        due.is("SHUT", x.finish(), 0);
        due.is("nothing is NOTED then", x.told(7), 0);
    }

    /** "file: -17 a folder is there; ... it comes, with a new BODY, in place of a node that is there". */
    private static void fileTakesAPlace() {
        Box x = new Box(4);
        x.takeFolder("d", 0);
        take(x, "file where a folder is", x.file("d", 1), -17);
        take(x, "link where a folder is", x.link("d", "."), -17);
        int f = x.file("f", 5);
        take(x, "hard where a folder is", x.hard("d", "f"), -17);
        take(x, "f", f, 5);
        take(x, "f in place of the file", f, 6);
        int l = x.link("f", "d");
        take(x, "link in place of the file", l, 7);
        take(x, "link in place of the link", l, 8);
        take(x, "DEAD link in place of the link", x.link("f", "/"), 9);
        take(x, "f in place of the DEAD link", f, 10);
        for (int node = 5; node < 10; node++) {
            due.is("node " + node + " is GONE", x.node(node, 0), -1);
            due.is("the folder that it was in", x.node(node, 1), 1);
        }
        due.is("BODIES", x.told(1), 4);
        due.is("the new BODY", x.node(10, 2), 3);
        due.is("files of the first", x.body(1, 2), 0);
        due.is("its size stays", x.body(1, 0), 5);
        due.is("nodes in the ROOT", x.node(1, 2), 2);
    }

    /** "-16 if the folder is SHUT", whatever is there. */
    private static void shutFolderRefuses() {
        Box x = new Box(36);
        x.takeFile("s/f", 1);
        x.takeLink("s/l", "f");
        x.takeFolder("s/d", 0);
        x.takeFolder("s", 1);
        x.takeFile("g", 1);
        due.is("SHUT", x.finish(), 1);
        for (String name : new String[] {"f", "l", "n"}) {
            take(x, "file s/" + name, x.file("s/" + name, 1), -16);
            take(x, "link s/" + name, x.link("s/" + name, "f"), -16);
            take(x, "hard s/" + name, x.hard("s/" + name, "g"), -16);
        }
        take(x, "folder s/n", x.folder("s/n", 0), -16);
        take(x, "folder s/d", x.folder("s/d", 0), 7);
        take(x, "hard s/f by itself", x.hard("s/f", "s/f"), -16);
        take(x, "hard h by s/f: it comes elsewhere", x.hard("h", "s/f"), 9);
        take(x, "device s/n", x.device("s/n"), -20);
    }

    /** "-19 its other PATH leads to no file (... where -12 to -15 would refuse, or a part is none, it is -19)". */
    private static void hardLeadsToNoFile() {
        Box x = new Box(38);
        x.takeFile("d/f", 1);
        x.takeLink("l", "d/f");
        x.takeLink("m", "d");
        x.takeLink("k", "/");
        String[] others = {"n", "d/n", "n/f", "n/n/f", "d", "l", "m", "k", "m/f", "k/f", "d/f/f", "D/f", "d/F", "h"};
        for (String other : others) {
            take(x, "hard h by " + other, x.hard("h", other), -19);
        }
        take(x, "hard n/h by n/h", x.hard("n/h", "n/h"), -19);
        take(x, "hard h by d/f", x.hard("h", "d/f"), 9);
        Box y = new Box(0);
        y.takeFile("f", 1);
        take(y, "hard h by n/f without RULE 32", y.hard("h", "n/f"), -19);
        take(y, "hard h by f", y.hard("h", "f"), 5);
        take(y, "hard l by h, itself a hard one", y.hard("l", "h"), 6);
        due.is("files with the BODY", y.body(1, 2), 3);
        y.takeFile("f", 2);
        due.is("files with the BODY", y.body(1, 2), 2);
        take(y, "hard h by f, another BODY now", y.hard("h", "f"), 8);
        due.is("the BODY of h", y.node(8, 2), 2);
    }

    private static void hardByMeetingNames() {
        for (int rules : new int[] {2, 18, 16}) {
            Box x = new Box(rules);
            x.takeFolder("d", 0);
            x.takeFile("d/f", 1);
            boolean comes = rules == 18;
            take(x, "rules " + rules + ", hard h by D/f", x.hard("h", "D/f"), comes ? 6 : -19);
            take(x, "rules " + rules + ", hard i by d/F", x.hard("i", "d/F"), comes ? 7 : -19);
        }
    }

    /** "if that file is the very node that is there, nothing changes, and that is it". */
    private static void hardIsTheVeryNode() {
        Box x = new Box(18);
        x.takeFile("f", 1);
        x.takeHard("h", "f");
        take(x, "f by f", x.hard("f", "f"), 4);
        take(x, "F by f, by RULE 16", x.hard("F", "f"), 4);
        take(x, "f by F, by RULE 16", x.hard("f", "F"), 4);
        due.holds("its name stays", x.nameOf(4).equals("f"));
        due.is("NODES", x.told(0), 6);
        due.is("made", x.told(5), 2);
        take(x, "h by f: the same BODY, but another node", x.hard("h", "f"), 6);
        due.is("the old h is GONE", x.node(5, 0), -1);
        due.is("made", x.told(5), 3);
        due.is("files with the BODY", x.body(1, 2), 2);
    }

    /** "device: -20; it is LISTED"; "each taking of a device counts". */
    private static void deviceIsListed() {
        Box x = new Box(32);
        x.takeFolder("d", 1);
        x.takeFile("f", 1);
        x.finish();
        int listed = 0;
        for (String path : new String[] {"x", "d", "f", "d/x", "n/x", "n/m/x"}) {
            int device = x.device(path);
            due.is("dry of device " + path, x.dry(device), -20);
            due.is("LISTED", x.told(6), listed);
            due.is("device " + path, x.take(device), -20);
            due.is("device " + path + " again", x.take(device), -20);
            listed += 2;
            due.is("LISTED", x.told(6), listed);
        }
        due.is("device d/n/x, in a SHUT folder's new one", x.takeDevice("d/n/x"), -16);
        due.is("device f/x", x.takeDevice("f/x"), -15);
        due.is("LISTED", x.told(6), listed);
        due.is("NODES", x.told(0), 6);
        due.is("made", x.told(5), 2);
    }

    /** "What take() would answer now, but 0 for a node". */
    private static void dryIsZeroForANode() {
        Box x = new Box(32);
        int[] entries = {x.folder("a/d", 1), x.file("a/f", 1), x.link("a/l", "f"), x.hard("a/h", "a/f")};
        for (int n = 0; n < 3; n++) {
            due.is("dry(" + n + ")", x.dry(entries[n]), 0);
        }
        due.is("dry of the hard one, no file yet", x.dry(entries[3]), -19);
        due.is("NODES", x.told(0), 4);
        for (int n = 0; n < 4; n++) {
            due.is("dry(" + n + ")", x.dry(entries[n]), 0);
            due.is("take(" + n + ")", x.take(entries[n]), 5 + n);
            due.is("dry(" + n + ") again", x.dry(entries[n]), 0);
        }
        due.is("NODES", x.told(0), 9);
    }

    /** "All NOTED rights are set": none of them, too. */
    private static void finishWithNothingNoted() {
        Box x = new Box(0);
        due.is("finish() at first", x.finish(), 0);
        due.is("finish() again", x.finish(), 0);
        x.takeFile("f", 1);
        due.is("finish() with a file", x.finish(), 0);
        x.takeFolder("d", 0);
        due.is("finish() with an open folder", x.finish(), 0);
        due.is("d is open", x.node(5, 0), 0);
    }

    /** "in the order in which they were NOTED (nothing is NOTED then)". */
    private static void finishInOrder() {
        int[][] orders = {{0}, {1}, {0, 1}, {1, 0}, {1, 1, 0}, {0, 1, 0, 1}, {1, 0, 1, 0}};
        for (int[] order : orders) {
            Box x = new Box(0);
            int[] entries = {x.folder("d", 0), x.folder("d", 1)};
            for (int right : order) {
                x.take(entries[right]);
            }
            int last = order[order.length - 1];
            due.is("NOTED", x.told(7), order.length);
            due.is("SHUT", x.finish(), last);
            due.is("d", x.node(4, 0), last);
            due.is("nothing is NOTED then", x.told(7), 0);
            due.is("finish() again", x.finish(), last);
            x.take(entries[1 - last]);
            due.is("d is as it was yet", x.node(4, 0), last);
            due.is("finish() after one more", x.finish(), 1 - last);
        }
    }

    /** "how many folders are SHUT": all, whenever they were. */
    private static void finishCountsAllShut() {
        Box x = new Box(32);
        x.takeFolder("a", 1);
        due.is("a", x.finish(), 1);
        x.takeFolder("b", 1);
        x.takeFolder("c", 0);
        x.takeFolder("d/e", 1);
        due.is("a, b and d/e", x.finish(), 3);
        x.takeFolder("a", 0);
        due.is("b and d/e", x.finish(), 2);
        due.is("b and d/e still", x.finish(), 2);
    }

    /** "-7: another what, n below 0". */
    private static void limitNoSuch() {
        Box x = new Box(0);
        for (int what : new int[] {-1, 2, 3, Integer.MIN_VALUE, Integer.MAX_VALUE}) {
            due.is("limit(" + what + ", 5)", x.limit(what, 5), -7);
        }
        for (long n : new long[] {-1, -7, Long.MIN_VALUE}) {
            due.is("limit(0, " + n + ")", x.limit(0, n), -7);
            due.is("limit(1, " + n + ")", x.limit(1, n), -7);
            due.is("limit(2, " + n + ")", x.limit(2, n), -7);
        }
        due.is("the limit of nodes is as it was", x.limit(0, 0), 1000000);
        due.is("the limit of sizes is as it was", x.limit(1, 0), 1L << 62);
        due.is("limit(0, most)", x.limit(0, Long.MAX_VALUE), 0);
        due.is("limit(1, most)", x.limit(1, Long.MAX_VALUE), 0);
        due.is("limit(0, 1)", x.limit(0, 1), Long.MAX_VALUE);
        due.is("limit(1, 2)", x.limit(1, 2), Long.MAX_VALUE);
        due.is("limit(0, 1) again", x.limit(0, 1), 1);
        due.is("limit(1, 2) again", x.limit(1, 2), 2);
    }

    /** "-21 something comes, and more nodes would have been made by takings than told". */
    private static void limitOfNodes() {
        Box x = new Box(0);
        x.limit(0, 0);
        int[] entries = {x.folder("d", 0), x.file("f", 0), x.link("l", "d")};
        for (int entry : entries) {
            take(x, "none of 0", entry, -21);
        }
        x.limit(0, 1);
        take(x, "1 of 1", entries[0], 4);
        take(x, "2 of 1", entries[1], -21);
        take(x, "no more of 1", entries[0], 4);
        x.limit(0, 2);
        take(x, "2 of 2", entries[1], 5);
        take(x, "3 of 2, in place", entries[1], -21);
        x.limit(0, 3);
        take(x, "3 of 3, in place", entries[1], 6);
        take(x, "4 of 3", entries[2], -21);
        x.limit(0, 4);
        take(x, "4 of 4", entries[2], 7);
        int hard = x.hard("h", "f");
        take(x, "5 of 4", hard, -21);
        x.limit(0, 5);
        take(x, "5 of 5", hard, 8);
        due.is("made", x.told(5), 5);
    }

    /** "each folder, file, link that comes counts". */
    private static void limitOfNodesCountsTheWay() {
        Box x = new Box(32);
        int deep = x.file("a/b/c/d/e/f/g/h", 1);
        x.limit(0, 7);
        take(x, "8 of 7", deep, -21);
        due.is("NODES", x.told(0), 4);
        x.limit(0, 8);
        take(x, "8 of 8", deep, 11);
        x.limit(0, 9);
        take(x, "10 of 9", x.folder("a/i/j", 0), -21);
        take(x, "9 of 9", x.folder("a/i", 0), 12);
        x.limit(0, 10);
        take(x, "10 of 10", x.link("a/i/j", "."), 13);
    }

    /** "from the beginning on": what was made before the limit was told counts. */
    private static void limitOfNodesFromTheBeginning() {
        Box x = new Box(0);
        int f = x.file("f", 2);
        int d = x.folder("d", 1);
        x.take(f);
        x.take(d);
        x.limit(0, 1);
        take(x, "3 of 1", f, -21);
        x.limit(0, 2);
        take(x, "3 of 2", f, -21);
        x.limit(0, 3);
        take(x, "3 of 3", f, 6);
        x.limit(0, 1000000);
        x.limit(1, 4);
        take(x, "6 of 4", f, -21);
        x.limit(1, 5);
        take(x, "6 of 5", f, -21);
        x.limit(1, 6);
        take(x, "6 of 6", f, 7);
    }

    /** "or it is a file (not hard) and the sizes of all such that were taken would be more than told". */
    private static void limitOfSizes() {
        Box x = new Box(0);
        x.limit(1, 0);
        int none = x.file("e", 0);
        int one = x.file("f", 1);
        int greatest = x.file("g", GREATEST);
        take(x, "0 of 0", none, 4);
        take(x, "1 of 0", one, -21);
        x.limit(1, 1);
        take(x, "1 of 1", one, 5);
        take(x, "2 of 1", one, -21);
        take(x, "1 of 1 again", none, 6);
        x.limit(1, GREATEST);
        take(x, "2^40 + 1 of 2^40", greatest, -21);
        x.limit(1, GREATEST + 1);
        take(x, "2^40 + 1 of 2^40 + 1", greatest, 7);
        take(x, "2^40 + 2 of 2^40 + 1", one, -21);
        x.limit(1, GREATEST);
        take(x, "an empty file when there is too much", none, -21);
    }

    private static void limitOfSizesCountsFilesAlone() {
        Box x = new Box(36);
        x.takeFile("f", 5);
        x.limit(1, 4);
        take(x, "a hard one", x.hard("h", "f"), 5);
        take(x, "a folder", x.entry(0, x.path("d"), 0, 9), 6);
        take(x, "a link", x.entry(2, x.path("l"), x.target("d"), 9), 7);
        take(x, "a DEAD link", x.entry(2, x.path("k"), x.target("/"), 9), 8);
        take(x, "a file", x.file("g", 0), -21);
        x.limit(1, 5);
        take(x, "a file", x.file("g", 0), 9);
        x.limit(1, 6);
        take(x, "a file in place, whose size was counted already", x.file("f", 2), -21);
        take(x, "a smaller one", x.file("f", 1), 10);
    }

    private static void limitOfSizesSumsUp() {
        Box x = new Box(0);
        int f = x.file("f", GREATEST);
        int one = x.file("g", 1);
        x.fillNodes(f, 190);
        long sum = 186 * GREATEST;
        x.limit(1, sum);
        take(x, "1 more than all", one, -21);
        x.limit(1, sum + 1);
        take(x, "just all", one, 190);
        x.limit(1, sum + GREATEST);
        take(x, "2^40 more", f, -21);
        x.limit(1, sum + GREATEST + 1);
        take(x, "2^40 more, just all", f, 191);
    }

    /** Limits of the largest long let all come that the tree has room for. */
    private static void largestLimits() {
        Box x = new Box(0);
        x.limit(0, Long.MAX_VALUE);
        x.limit(1, Long.MAX_VALUE);
        int f = x.file("f", GREATEST);
        x.fillNodes(f, 199);
        take(x, "the last node", f, 199);
        take(x, "one more", f, -6);
        Box y = new Box(0);
        y.limit(0, 1L << 32);
        y.limit(1, 1L << 32);
        take(y, "limits of 2^32", y.file("f", 1L << 32), 4);
        take(y, "one byte more", y.file("g", 1), -21);
        y.limit(0, (1L << 32) + 1);
        take(y, "a folder", y.folder("d", 0), 5);
    }

    /** "200 at most (those that are GONE count, too)"; "-6 there would be more than 200 NODES". */
    private static void twoHundredNodes() {
        Box x = new Box(0);
        int f = x.file("f", 1);
        int[] more = {f, x.folder("d", 0), x.link("l", "f"), x.hard("h", "f")};
        x.fillNodes(f, 199);
        due.is("nodes in the ROOT", x.node(1, 2), 1);
        for (int entry : more) {
            due.is("dry when there are 199", x.dry(entry), 0);
        }
        take(x, "node 199", f, 199);
        due.is("NODES", x.told(0), 200);
        for (int entry : more) {
            take(x, "node 200", entry, -6);
        }
        due.is("NODES", x.told(0), 200);
        due.is("made", x.told(5), 196);
        due.is("BODIES", x.told(1), 197);
        due.is("the last node", x.node(199, 0), 2);
        due.is("none behind it", x.node(200, 0), -7);
        due.is("the last BODY", x.body(196, 2), 1);
        due.is("none behind it", x.body(197, 2), -7);
    }

    private static void twoHundredNodesWithTheWay() {
        Box x = new Box(32);
        int f = x.file("f", 1);
        int eight = x.file("a/b/c/d/e/f/g/h", 1);
        x.fillNodes(f, 192);
        due.is("8 more than 192", x.dry(eight), 0);
        x.take(f);
        take(x, "8 more than 193", eight, -6);
        due.is("NODES", x.told(0), 193);
        take(x, "7 more than 193", x.file("b/c/d/e/f/g/h", 1), 199);
        due.is("NODES", x.told(0), 200);
        take(x, "another file in the new folder", x.file("b/c/x", 1), -6);
        take(x, "the new folder", x.folder("b/c", 1), 194);
        due.is("it is SHUT then", x.finish(), 1);
    }

    /** "-21 something comes": what is there already is it, whatever the limits. */
    private static void nothingComesBeyondLimits() {
        Box x = new Box(0);
        int f = x.file("f", 1);
        int d = x.folder("d", 1);
        int same = x.hard("f", "f");
        x.take(d);
        x.fillNodes(f, 200);
        x.limit(0, 0);
        x.limit(1, 0);
        take(x, "the folder that is there", d, 4);
        take(x, "the file that is there", same, 199);
        due.is("NOTED", x.told(7), 2);
        take(x, "a file", f, -21);
    }

    /** "An entry is taken (perhaps again)". */
    private static void takenAgain() {
        Box x = new Box(36);
        int[] entries = {x.folder("d", 0), x.file("f", 1), x.link("l", "f"), x.hard("h", "f"), x.link("k", "/")};
        int[] first = {4, 5, 6, 7, 8};
        int[] again = {4, 9, 10, 11, 12};
        for (int n = 0; n < entries.length; n++) {
            take(x, "entry " + n, entries[n], first[n]);
        }
        for (int n = 0; n < entries.length; n++) {
            take(x, "entry " + n + " again", entries[n], again[n]);
        }
        due.is("nodes in the ROOT", x.node(1, 2), 5);
        due.is("entries", x.told(4), 5);
    }
}
