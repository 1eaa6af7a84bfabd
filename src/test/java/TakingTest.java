/** Promises 7 to 11: entry, take, dry, finish, limit; links are judged in LinksTest. */
public final class TakingTest {
    private static final Due due = new Due();

    public static void main(String[] args) {
        entry();
        hundredEntries();
        foldersThatLack();
        theWay();
        meetingOnTheWay();
        meetingAtTheEnd();
        folders();
        files();
        hardOnes();
        hardOnesThatLeadToNoFile();
        devices();
        dry();
        finish();
        limits();
        limitOfNodes();
        limitOfSizes();
        twoHundredNodes();
        orderOfRefusals();
        refusalsChangeNothing();
        due.end();
    }

    /** Takes an entry after asking dry() for it, which must tell the same. */
    private static void take(SafePaths x, String what, int entry, int want) {
        due.is("dry of " + what, x.dry(entry), Math.min(want, 0));
        due.is("take of " + what, x.take(entry), want);
        due.holds("inside() after " + what, x.inside());
    }

    private static void entry() {
        SafePaths x = new SafePaths(0);
        due.is("entry without paths", x.entry(0, 0, 0, 0), -7);
        Due.path(x, "a");
        due.is("link without targets", x.entry(2, 0, 0, 0), -7);
        Due.target(x, "b");
        Due.target(x, "c");
        due.is("kind -1", x.entry(-1, 0, 0, 0), -7);
        due.is("kind 5", x.entry(5, 0, 0, 0), -7);
        for (int kind = 0; kind < 5; kind++) {
            due.is("path -1 of kind " + kind, x.entry(kind, -1, 0, 0), -7);
            due.is("path 1 of kind " + kind, x.entry(kind, 1, 0, 0), -7);
        }
        due.is("right -1", x.entry(0, 0, -1, 0), -7);
        due.is("right 2", x.entry(0, 0, 2, 0), -7);
        due.is("size -1", x.entry(1, 0, 0, -1), -7);
        due.is("size 2^40 + 1", x.entry(1, 0, 0, (1L << 40) + 1), -7);
        due.is("least size", x.entry(1, 0, 0, Long.MIN_VALUE), -7);
        due.is("target -1", x.entry(2, 0, -1, 0), -7);
        due.is("target 2", x.entry(2, 0, 2, 0), -7);
        due.is("other path -1", x.entry(3, 0, -1, 0), -7);
        due.is("other path 1", x.entry(3, 0, 1, 0), -7);
        due.is("told(4)", x.told(4), 0);
        due.is("folder, size not looked at", x.entry(0, 0, 1, -1), 0);
        due.is("file of 2^40", x.entry(1, 0, Integer.MIN_VALUE, 1L << 40), 1);
        due.is("file of 0", x.entry(1, 0, Integer.MAX_VALUE, 0), 2);
        due.is("link, size not looked at", x.entry(2, 0, 1, -1), 3);
        due.is("hard, size not looked at", x.entry(3, 0, 0, Long.MAX_VALUE), 4);
        due.is("device, with and size not looked at", x.entry(4, 0, -9, -9), 5);
        due.is("told(4)", x.told(4), 6);
        for (int none : new int[] {-1, 6, Integer.MAX_VALUE, Integer.MIN_VALUE}) {
            due.is("take(" + none + ")", x.take(none), -7);
            due.is("dry(" + none + ")", x.dry(none), -7);
        }
    }

    private static void hundredEntries() {
        SafePaths x = new SafePaths(0);
        Due.path(x, "a");
        for (int n = 0; n < 100; n++) {
            due.is("entry number " + n, x.entry(1, 0, n, n), n);
        }
        due.is("entry number 100", x.entry(1, 0, 0, 0), -6);
        due.is("-7 comes before -6", x.entry(1, 1, 0, 0), -7);
        due.is("told(4)", x.told(4), 100);
    }

    private static void foldersThatLack() {
        SafePaths x = new SafePaths(32);
        take(x, "a/b/c", Due.file(x, "a/b/c", 5, 6), 6);
        due.is("a is an open folder", x.node(4, 0), 0);
        due.is("a is in the ROOT", x.node(4, 1), 1);
        due.is("b is an open folder", x.node(5, 0), 0);
        due.is("b is in a", x.node(5, 1), 4);
        due.is("c is in b", x.node(6, 1), 5);
        due.holds("the names", (Due.nameOf(x, 4) + Due.nameOf(x, 5) + Due.nameOf(x, 6)).equals("abc"));
        due.is("made", x.told(5), 3);
        due.is("NOTED for folders on the way", x.told(7), 0);
        x.take(Due.file(x, "f", 1, 1));
        take(x, "n/f/x, by what is in n alone", Due.file(x, "n/f/x", 1, 1), 10);
        take(x, "m/f, by what is in m alone", Due.folder(x, "m/f", 1), 12);
        SafePaths y = new SafePaths(31);
        take(y, "a/b without rule 32", Due.file(y, "a/b", 5, 6), -13);
        take(y, "folder a/b without rule 32", Due.folder(y, "a/b", 0), -13);
    }

    private static void theWay() {
        SafePaths x = new SafePaths(36);
        x.take(Due.file(x, "f", 1, 1));
        x.take(Due.link(x, "l", "f"));
        x.take(Due.link(x, "d", "/"));
        due.is("d is DEAD", x.node(6, 0), 4);
        take(x, "file behind a file", Due.file(x, "f/x", 1, 1), -15);
        take(x, "file behind a link", Due.file(x, "l/x", 1, 1), -14);
        take(x, "file behind a DEAD link", Due.file(x, "d/x", 1, 1), -14);
        take(x, "folder behind a file", Due.folder(x, "f/x/y", 1), -15);
        take(x, "device behind a link", Due.device(x, "l/x"), -14);
        due.is("LISTED", x.told(6), 0);
    }

    private static void meetingOnTheWay() {
        SafePaths x = new SafePaths(34);
        x.take(Due.folder(x, "d", 0));
        x.take(Due.file(x, "f", 1, 1));
        x.take(Due.link(x, "l", "f"));
        take(x, "D/x", Due.file(x, "D/x", 1, 1), -12);
        take(x, "F/x", Due.file(x, "F/x", 1, 1), -12);
        take(x, "L/x", Due.file(x, "L/x", 1, 1), -12);
        take(x, "d/x", Due.file(x, "d/x", 1, 1), 7);
        SafePaths y = new SafePaths(18);
        y.take(Due.folder(y, "d", 0));
        y.take(Due.file(y, "f", 1, 1));
        take(y, "D/x", Due.file(y, "D/x", 1, 1), 6);
        due.is("x is in d", y.node(6, 1), 4);
        due.holds("d keeps its name", Due.nameOf(y, 4).equals("d"));
        take(y, "F/x", Due.file(y, "F/x", 1, 1), -15);
        SafePaths z = new SafePaths(48);
        z.take(Due.folder(z, "d", 0));
        take(z, "D/x without rule 2", Due.file(z, "D/x", 1, 1), 6);
        due.is("D is another folder", z.node(6, 1), 5);
    }

    private static void meetingAtTheEnd() {
        SafePaths x = new SafePaths(2);
        x.take(Due.folder(x, "d", 0));
        x.take(Due.file(x, "f", 1, 1));
        take(x, "folder D", Due.folder(x, "D", 0), -12);
        take(x, "file D", Due.file(x, "D", 0, 0), -12);
        take(x, "file F", Due.file(x, "F", 0, 0), -12);
        take(x, "link F", Due.link(x, "F", "f"), -12);
        take(x, "hard F", Due.hard(x, "F", "f"), -12);
        take(x, "device F", Due.device(x, "F"), -12);
        due.is("LISTED", x.told(6), 0);
        SafePaths y = new SafePaths(18);
        y.take(Due.folder(y, "d", 0));
        y.take(Due.file(y, "f", 1, 1));
        take(y, "folder D", Due.folder(y, "D", 1), 4);
        take(y, "file D", Due.file(y, "D", 0, 0), -17);
        take(y, "file F", Due.file(y, "F", 0, 0), 6);
        due.is("f is GONE", y.node(5, 0), -1);
        due.holds("F has its own name", Due.nameOf(y, 6).equals("F"));
        take(y, "hard f, by F", Due.hard(y, "f", "F"), 6);
        due.holds("F keeps its name", Due.nameOf(y, 6).equals("F"));
    }

    private static void folders() {
        SafePaths x = new SafePaths(0);
        int d = Due.folder(x, "d", 1);
        take(x, "d", d, 4);
        due.is("d comes open", x.node(4, 0), 0);
        due.is("NOTED", x.told(7), 1);
        take(x, "d again", d, 4);
        due.is("NOTED", x.told(7), 2);
        due.is("made", x.told(5), 1);
        x.take(Due.file(x, "f", 1, 1));
        take(x, "folder f", Due.folder(x, "f", 0), -17);
        x.take(Due.link(x, "l", "d"));
        take(x, "folder l", Due.folder(x, "l", 0), -17);
        due.is("NOTED", x.told(7), 2);
        x.finish();
        take(x, "d when SHUT", d, 4);
        take(x, "folder d/e in a SHUT one", Due.folder(x, "d/e", 0), -16);
        due.is("NOTED", x.told(7), 1);
    }

    private static void files() {
        SafePaths x = new SafePaths(32);
        int f = Due.file(x, "d/f", -3, 1L << 40);
        take(x, "f", f, 5);
        due.is("its BODY", x.node(5, 2), 1);
        due.is("size", x.body(1, 0), 1L << 40);
        due.is("value", x.body(1, 1), -3);
        take(x, "f again", f, 6);
        due.is("the first f is GONE", x.node(5, 0), -1);
        due.is("its BODY", x.node(6, 2), 2);
        due.is("files with BODY 1", x.body(1, 2), 0);
        due.is("files with BODY 2", x.body(2, 2), 1);
        due.is("size of BODY 1 stays", x.body(1, 0), 1L << 40);
        take(x, "file d", Due.file(x, "d", 1, 1), -17);
        take(x, "link d/f", Due.link(x, "d/f", "."), 7);
        take(x, "file in place of the link", f, 8);
        due.is("the link is GONE", x.node(7, 0), -1);
        due.is("BODIES", x.told(1), 4);
        due.is("nodes in d", x.node(4, 2), 1);
        x.take(Due.folder(x, "d", 1));
        x.finish();
        take(x, "f in a SHUT folder", f, -16);
        take(x, "g in a SHUT folder", Due.file(x, "d/g", 1, 1), -16);
        take(x, "d/e/g, e lacks in a SHUT folder", Due.file(x, "d/e/g", 1, 1), -16);
    }

    private static void hardOnes() {
        SafePaths x = new SafePaths(32);
        x.take(Due.file(x, "f", 7, 9));
        int h = Due.hard(x, "d/h", "f");
        take(x, "d/h", h, 6);
        due.is("a file", x.node(6, 0), 2);
        due.is("with the same BODY", x.node(6, 2), 1);
        due.is("files with it", x.body(1, 2), 2);
        due.is("BODIES", x.told(1), 2);
        take(x, "h again", h, 7);
        due.is("h is in place of h", x.node(6, 0), -1);
        int same = Due.hard(x, "f", "f");
        take(x, "f by f", same, 4);
        due.is("nothing is made", x.told(5), 4);
        x.take(Due.file(x, "f", 8, 10));
        due.is("the BODY of h stays", x.node(7, 2), 1);
        due.is("files with it", x.body(1, 2), 1);
        take(x, "hard d", Due.hard(x, "d", "f"), -17);
        x.take(Due.folder(x, "d", 1));
        x.finish();
        take(x, "h in a SHUT folder", h, -16);
        take(x, "h by h in a SHUT folder", Due.hard(x, "d/h", "d/h"), -16);
        take(x, "from a SHUT folder", Due.hard(x, "k", "d/h"), 9);
    }

    private static void hardOnesThatLeadToNoFile() {
        SafePaths x = new SafePaths(38);
        x.take(Due.file(x, "d/f", 7, 9));
        x.take(Due.link(x, "l", "d/f"));
        x.take(Due.link(x, "m", "d"));
        x.take(Due.link(x, "n", "/"));
        for (String other : new String[] {"none", "d/none", "none/f", "d", "l", "n", "m/f", "n/f", "d/f/x", "D/f", "d/F"}) {
            take(x, "hard h by " + other, Due.hard(x, "h", other), -19);
        }
        take(x, "hard e/h by e/h", Due.hard(x, "e/h", "e/h"), -19);
        take(x, "hard h by d/f", Due.hard(x, "h", "d/f"), 9);
        SafePaths y = new SafePaths(50);
        y.take(Due.file(y, "d/f", 7, 9));
        take(y, "hard h by D/F with rule 16", Due.hard(y, "h", "D/F"), 6);
    }

    private static void devices() {
        SafePaths x = new SafePaths(0);
        x.take(Due.folder(x, "d", 1));
        x.finish();
        int d = Due.device(x, "d/x");
        due.is("dry", x.dry(d), -20);
        due.is("LISTED", x.told(6), 0);
        due.is("take", x.take(d), -20);
        due.is("take again", x.take(d), -20);
        due.is("LISTED", x.told(6), 2);
        due.is("a device where a folder is", x.take(Due.device(x, "d")), -20);
        due.is("LISTED", x.told(6), 3);
        due.is("a device where a folder lacks", x.take(Due.device(x, "e/x")), -13);
        due.is("LISTED", x.told(6), 3);
        due.is("NODES", x.told(0), 5);
        SafePaths y = new SafePaths(32);
        due.is("a device behind a folder that could come", y.take(Due.device(y, "e/x")), -20);
        due.is("NODES", y.told(0), 4);
    }

    private static void dry() {
        SafePaths x = new SafePaths(32);
        int f = Due.file(x, "a/b/f", 1, 1);
        int d = Due.folder(x, "a", 1);
        due.is("dry of a file", x.dry(f), 0);
        due.is("dry of a folder", x.dry(d), 0);
        due.is("NODES", x.told(0), 4);
        due.is("BODIES", x.told(1), 1);
        due.is("made", x.told(5), 0);
        due.is("NOTED", x.told(7), 0);
        x.take(f);
        due.is("dry of a file in place of one", x.dry(f), 0);
        due.is("f is there", x.node(6, 0), 2);
        due.is("dry of a folder that is there", x.dry(d), 0);
        due.is("NOTED", x.told(7), 0);
    }

    private static void finish() {
        SafePaths x = new SafePaths(32);
        due.is("finish at first", x.finish(), 0);
        int shut = Due.folder(x, "a", 1);
        int open = Due.folder(x, "a", 0);
        int other = Due.folder(x, "a/b", 1);
        x.take(shut);
        x.take(other);
        x.take(open);
        x.take(shut);
        due.is("NOTED", x.told(7), 4);
        due.is("the file still comes", x.take(Due.file(x, "a/b/f", 1, 1)), 6);
        due.is("finish", x.finish(), 2);
        due.is("NOTED", x.told(7), 0);
        due.is("a", x.node(4, 0), 1);
        due.is("finish again", x.finish(), 2);
        x.take(shut);
        x.take(open);
        due.is("the last one counts", x.finish(), 1);
        due.is("a is open", x.node(4, 0), 0);
        due.is("b is SHUT", x.node(5, 0), 1);
    }

    private static void limits() {
        SafePaths x = new SafePaths(0);
        due.is("limit(-1, 0)", x.limit(-1, 0), -7);
        due.is("limit(2, 0)", x.limit(2, 0), -7);
        due.is("limit(0, -1)", x.limit(0, -1), -7);
        due.is("limit(1, -1)", x.limit(1, Long.MIN_VALUE), -7);
        due.is("limit(0, 0)", x.limit(0, 0), 1000000);
        due.is("limit(0, most)", x.limit(0, Long.MAX_VALUE), 0);
        due.is("limit(0, 1)", x.limit(0, 1), Long.MAX_VALUE);
        due.is("limit(1, 0)", x.limit(1, 0), 1L << 62);
        due.is("limit(1, 5)", x.limit(1, 5), 0);
        due.is("limit(1, -5)", x.limit(1, -5), -7);
        due.is("limit(1, 6)", x.limit(1, 6), 5);
    }

    private static void limitOfNodes() {
        SafePaths x = new SafePaths(32);
        x.limit(0, 3);
        int deep = Due.file(x, "a/b/c/f", 1, 1);
        int d = Due.folder(x, "d", 0);
        take(x, "four nodes of three", deep, -21);
        take(x, "one", d, 4);
        take(x, "two more", Due.file(x, "a/f", 1, 1), 6);
        take(x, "one too many: a file", Due.file(x, "g", 1, 1), -21);
        take(x, "one too many: a file in place", Due.file(x, "a/f", 1, 1), -21);
        take(x, "one too many: a folder", Due.folder(x, "e", 0), -21);
        take(x, "one too many: a link", Due.link(x, "l", "."), -21);
        take(x, "one too many: a hard one", Due.hard(x, "h", "a/f"), -21);
        take(x, "a folder that is there", d, 4);
        take(x, "a file that is there", Due.hard(x, "a/f", "a/f"), 6);
        x.limit(0, 0);
        take(x, "a folder that is there, with limit 0", d, 4);
        take(x, "another", Due.folder(x, "e", 0), -21);
        x.limit(0, 4);
        take(x, "again", Due.folder(x, "e", 0), 7);
    }

    private static void limitOfSizes() {
        SafePaths x = new SafePaths(0);
        x.limit(1, 10);
        int four = Due.file(x, "f", 1, 4);
        take(x, "4 of 10", four, 4);
        take(x, "8 of 10, in place", four, 5);
        take(x, "12 of 10", four, -21);
        take(x, "a hard one", Due.hard(x, "h", "f"), 6);
        take(x, "an empty file", Due.file(x, "e", 1, 0), 7);
        take(x, "10 of 10", Due.file(x, "g", 1, 2), 8);
        take(x, "11 of 10", Due.file(x, "g", 1, 1), -21);
        x.limit(1, 9);
        take(x, "10 of 9 with an empty file", Due.file(x, "e", 1, 0), -21);
        take(x, "a folder", Due.folder(x, "d", 0), 9);
        take(x, "a link", Due.link(x, "l", "d"), 10);
        take(x, "a hard one", Due.hard(x, "h", "f"), 11);
        x.limit(1, Long.MAX_VALUE);
        take(x, "a great one", Due.file(x, "g", 1, 1L << 40), 12);
    }

    private static void twoHundredNodes() {
        SafePaths x = new SafePaths(32);
        int f = Due.file(x, "f", 1, 1);
        for (int n = 4; n < 199; n++) {
            due.is("f as node " + n, x.take(f), n);
        }
        int two = Due.file(x, "d/f", 1, 1);
        due.is("NODES", x.told(0), 199);
        take(x, "two nodes more", two, -6);
        take(x, "the last node", f, 199);
        take(x, "one more", f, -6);
        take(x, "one more folder", Due.folder(x, "e", 0), -6);
        take(x, "one more hard", Due.hard(x, "h", "f"), -6);
        take(x, "nothing more", Due.hard(x, "f", "f"), 199);
        take(x, "device", Due.device(x, "x"), -20);
        x.limit(0, 196);
        take(x, "-21 comes before -6", f, -21);
        x.limit(0, 197);
        take(x, "-6 comes after -21", f, -6);
        x.limit(1, 196);
        take(x, "-21 of sizes comes before -6", f, -21);
        due.is("NODES", x.told(0), 200);
    }

    private static void orderOfRefusals() {
        SafePaths x = new SafePaths(34);
        x.take(Due.folder(x, "d", 1));
        x.take(Due.file(x, "d/f", 1, 1));
        x.take(Due.folder(x, "d/e", 0));
        x.finish();
        x.limit(0, 0);
        take(x, "-12 before -16", Due.file(x, "d/F", 1, 1), -12);
        take(x, "-12 before -17", Due.file(x, "d/E", 1, 1), -12);
        take(x, "-12 on the way before -15", Due.file(x, "d/F/x", 1, 1), -12);
        take(x, "-17 before -16: file", Due.file(x, "d/e", 1, 1), -17);
        take(x, "-17 before -16: folder", Due.folder(x, "d/f", 1), -17);
        take(x, "-17 before -16: link", Due.link(x, "d/e", "/"), -17);
        take(x, "-17 before -16: hard", Due.hard(x, "d/e", "none"), -17);
        take(x, "-16 before -18", Due.link(x, "d/l", "/"), -16);
        take(x, "-16 before -19", Due.hard(x, "d/h", "none"), -16);
        take(x, "-16 before -21", Due.file(x, "d/g", 1, 1), -16);
        take(x, "-16 before -20 on the way", Due.device(x, "d/n/x"), -16);
        take(x, "-18 before -21", Due.link(x, "l", "/"), -18);
        take(x, "-19 before -21", Due.hard(x, "h", "none"), -19);
        take(x, "-20 before -21", Due.device(x, "x"), -20);
        take(x, "-21", Due.file(x, "g", 1, 1), -21);
        SafePaths y = new SafePaths(2);
        y.take(Due.folder(y, "d", 1));
        y.finish();
        take(y, "-13 before -16", Due.file(y, "d/n/f", 1, 1), -13);
    }

    private static void refusalsChangeNothing() {
        SafePaths x = new SafePaths(32);
        x.take(Due.file(x, "d/f", 1, 1));
        x.limit(1, 5);
        take(x, "too great", Due.file(x, "e/f", 1, 5), -21);
        take(x, "too great, in place", Due.file(x, "d/f", 1, 5), -21);
        take(x, "link out", Due.link(x, "e/g/l", "../../.."), -18);
        take(x, "link out, in place", Due.link(x, "d/f", "/"), -18);
        take(x, "hard by none", Due.hard(x, "e/h", "none"), -19);
        due.is("NODES", x.told(0), 6);
        due.is("BODIES", x.told(1), 2);
        due.is("made", x.told(5), 2);
        due.is("LISTED", x.told(6), 0);
        due.is("NOTED", x.told(7), 0);
        due.is("f", x.node(5, 0), 2);
        take(x, "small enough", Due.file(x, "d/f", 1, 4), 6);
    }
}
