/** Links: how they are taken (promise 8) and where they lead (promise 12). */
public final class LinksTest {
    private static final Due due = new Due();

    public static void main(String[] args) {
        otherNodesLeadToThemselves();
        linksInTheRoot();
        namesAlone();
        linksOverLinks();
        rings();
        twentyLinks();
        deadLinks();
        linksOutside();
        foldersYetToCome();
        beforeAnythingComes();
        meetingNames();
        dividers();
        theTreeChanges();
        due.end();
    }

    /** The node that a new link d/l leads to, in a tree with the folders d and d/e and the file d/f. */
    private static void leads(int rules, String target, int want) {
        SafePaths x = new SafePaths(rules);
        x.take(Due.folder(x, "d", 0));
        x.take(Due.folder(x, "d/e", 0));
        x.take(Due.file(x, "d/f", 1, 1));
        int link = Due.link(x, "d/l", target);
        if (want == -1) {
            due.is("dry of a link to " + target, x.dry(link), -18);
            due.is("take of a link to " + target, x.take(link), -18);
            return;
        }
        due.is("dry of a link to " + target, x.dry(link), 0);
        due.is("take of a link to " + target, x.take(link), 7);
        due.is("its kind", x.node(7, 0), 3);
        due.is("its TARGET", x.node(7, 2), 0);
        due.is("rules " + rules + ": lead of d/l to " + target, x.lead(7), want);
    }

    private static void otherNodesLeadToThemselves() {
        SafePaths x = new SafePaths(0);
        for (int node = 0; node < 4; node++) {
            due.is("lead(" + node + ")", x.lead(node), node);
        }
        for (int none : new int[] {-1, 4, 200, Integer.MAX_VALUE, Integer.MIN_VALUE}) {
            due.is("lead(" + none + ")", x.lead(none), -7);
        }
        int f = Due.file(x, "f", 1, 1);
        x.take(f);
        due.is("lead of a file", x.lead(4), 4);
        x.take(f);
        due.is("lead of a GONE file", x.lead(4), -7);
        x.take(Due.link(x, "f", "."));
        x.take(f);
        due.is("lead of a GONE link", x.lead(6), -7);
    }

    private static void linksInTheRoot() {
        leads(0, ".", 4);
        leads(0, "././/", 4);
        leads(0, "..", 1);
        leads(0, "../.", 1);
        leads(0, "e", 5);
        leads(0, "e/..", 4);
        leads(0, "e/../..", 1);
        leads(0, "../d/e/../f", 6);
        leads(0, "f", 6);
        leads(0, "f/.", 6);
        leads(0, "f//", 6);
        leads(0, "f/..", -2);
        leads(0, "f/x", -2);
        leads(0, "../..", -1);
        leads(0, "../../out", -1);
        leads(0, "../../home/key", -1);
        leads(0, "/", -1);
        leads(0, "/out/d", -1);
        leads(0, "e/../../..", -1);
    }

    private static void namesAlone() {
        leads(0, "n", -2);
        leads(0, "n/m/o", -2);
        leads(0, "n/..", 4);
        leads(0, "n/../e", 5);
        leads(0, "n/m/../..", 4);
        leads(0, "n/m/../../f", 6);
        leads(0, "n/m/..", -2);
        leads(0, "n/e/..", -2);
        leads(0, "n/../..", 1);
        leads(0, "n/../../d", 4);
        leads(0, "n/../../..", -1);
        leads(0, "n/m/../../../..", -1);
        leads(0, "n/f/x/../../..", 4);
    }

    private static void linksOverLinks() {
        SafePaths x = new SafePaths(32);
        x.take(Due.file(x, "a/b/f", 1, 1));
        x.take(Due.link(x, "a/up", ".."));
        x.take(Due.link(x, "l", "a/b"));
        due.is("a/up", x.lead(7), 1);
        due.is("l", x.lead(8), 5);
        x.take(Due.link(x, "m", "l/f"));
        due.is("m, through l", x.lead(9), 6);
        x.take(Due.link(x, "n", "l/.."));
        due.is("n, above where l leads", x.lead(10), 4);
        x.take(Due.link(x, "o", "l/../up/n/b"));
        due.is("o, through l, up and n", x.lead(11), 5);
        x.take(Due.link(x, "p", "m/x"));
        due.is("p, behind a file", x.lead(12), -2);
        x.take(Due.link(x, "q", "m/."));
        due.is("q, at the file", x.lead(13), 6);
        due.is("through l and out", x.take(Due.link(x, "r", "l/../../..")), -18);
        due.is("by up and out", x.take(Due.link(x, "r", "a/up/..")), -18);
        x.take(Due.link(x, "s", "l/n/m/../.."));
        due.is("names alone below where l leads", x.lead(14), 5);
        x.take(Due.link(x, "t", "none/l"));
        x.take(Due.link(x, "u", "t/../../l"));
        due.is("names alone in t's TARGET go on behind it", x.lead(16), 5);
    }

    private static void rings() {
        SafePaths x = new SafePaths(0);
        x.take(Due.link(x, "a", "a"));
        due.is("a to a", x.lead(4), -3);
        x.take(Due.link(x, "b", "c"));
        x.take(Due.link(x, "c", "b/.."));
        due.is("b to c to b", x.lead(5), -3);
        due.is("c to b to c", x.lead(6), -3);
        x.take(Due.link(x, "d", "a/a/a/a/a/a/a/a/a/a/a/a/a/a/a/a/a/a/a/a"));
        due.is("d to many", x.lead(7), -3);
        due.is("a ring comes before what is outside", x.take(Due.link(x, "e", "a/../..")), 8);
        due.is("e", x.lead(8), -3);
    }

    private static void twentyLinks() {
        SafePaths x = new SafePaths(0);
        x.take(Due.file(x, "f", 1, 1));
        String last = "f";
        for (int n = 0; n < 21; n++) {
            String link = String.valueOf((char) ('g' + n));
            x.take(Due.link(x, link, last));
            due.is("link number " + n, x.lead(5 + n), 4);
            last = link;
        }
        x.take(Due.link(x, "last", last));
        due.is("through 21 links", x.lead(26), -3);
        SafePaths y = new SafePaths(0);
        y.take(Due.link(y, "s", "."));
        y.take(Due.link(y, "t", "s/s/s/s/s/s/s/s/s/s/s/s/s/s/s/s/s/s/s/s"));
        due.is("20 times the same link", y.lead(5), 1);
        y.take(Due.link(y, "u", "t"));
        due.is("21 links", y.lead(6), -3);
        due.is("outside after 20 links", y.take(Due.link(y, "v", "s/s/s/s/s/s/s/s/s/s/s/s/s/s/s/s/s/s/..")), -18);
    }

    private static void deadLinks() {
        SafePaths x = new SafePaths(36);
        due.is("take", x.take(Due.link(x, "l", "../home/key")), 4);
        due.is("it is DEAD", x.node(4, 0), 4);
        due.is("its TARGET", x.node(4, 2), 0);
        due.is("it leads", x.lead(4), -2);
        x.take(Due.link(x, "m", "l"));
        due.is("m is not DEAD", x.node(5, 0), 3);
        due.is("m leads to the DEAD one", x.lead(5), 4);
        x.take(Due.link(x, "n", "l/."));
        due.is("n leads to the DEAD one", x.lead(6), 4);
        x.take(Due.link(x, "o", "l/x"));
        due.is("o leads", x.lead(7), -2);
        x.take(Due.link(x, "p", "l/../.."));
        due.is("p is not DEAD", x.node(8, 0), 3);
        due.is("p leads", x.lead(8), -2);
        x.take(Due.link(x, "q", "."));
        due.is("q is not DEAD", x.node(9, 0), 3);
        x.take(Due.link(x, "l", "q"));
        due.is("a live one in place of the DEAD one", x.node(10, 0), 3);
        due.is("p leads now", x.lead(8), -1);
        due.is("m leads now", x.lead(5), 1);
    }

    private static void linksOutside() {
        for (String target : new String[] {"/", "/out", "..", "../out", "../..", "n/../..", "../home", "./..", "//"}) {
            SafePaths x = new SafePaths(0);
            due.is("link to " + target, x.take(Due.link(x, "l", target)), -18);
            due.is("NODES", x.told(0), 4);
            SafePaths y = new SafePaths(4);
            due.is("DEAD link to " + target, y.take(Due.link(y, "l", target)), 4);
            due.is("it is DEAD", y.node(4, 0), 4);
            due.holds("inside()", y.inside());
        }
    }

    private static void foldersYetToCome() {
        SafePaths x = new SafePaths(32);
        due.is("a/b/l to ../..", x.take(Due.link(x, "a/b/l", "../..")), 6);
        due.is("it leads", x.lead(6), 1);
        due.is("c/d/l to ../../..", x.take(Due.link(x, "c/d/l", "../../..")), -18);
        due.is("c/d/l to /", x.take(Due.link(x, "c/d/l", "/")), -18);
        due.is("c/d/l to n/../../../..", x.take(Due.link(x, "c/d/l", "n/../../../..")), -18);
        due.is("c/d/l to ../../a/b", x.take(Due.link(x, "c/d/l", "../../a/b/../c/d/l")), 9);
        due.is("it leads", x.lead(9), -2);
        due.is("a/x/l to ../b/l, by what is there", x.take(Due.link(x, "a/x/l", "../b/l/..")), -18);
        due.is("a/x/l to b/l, by names alone", x.take(Due.link(x, "a/x/l", "b/l/../../..")), 11);
        due.is("it leads", x.lead(11), 4);
        due.is("e/l to ../e/.., by names alone", x.take(Due.link(x, "e/l", "../e/l/../..")), 13);
        due.is("then it is a ring", x.lead(13), -3);
        SafePaths y = new SafePaths(36);
        due.is("c/d/l to ../../..", y.take(Due.link(y, "c/d/l", "../../..")), 6);
        due.is("it is DEAD", y.node(6, 0), 4);
        due.is("a/b/l to ../..", y.take(Due.link(y, "a/b/l", "../..")), 9);
        due.is("it is not DEAD", y.node(9, 0), 3);
    }

    private static void beforeAnythingComes() {
        SafePaths x = new SafePaths(0);
        due.is("l to l/..", x.take(Due.link(x, "l", "l/..")), 4);
        due.is("it leads", x.lead(4), -3);
        due.is("l to .", x.take(Due.link(x, "l", ".")), 5);
        due.is("l to l/.. through the l that is there", x.take(Due.link(x, "l", "l/..")), -18);
        due.is("l is still there", x.node(5, 0), 3);
        due.is("file l", x.take(Due.file(x, "l", 1, 1)), 6);
        due.is("l to l/../.. behind the file", x.take(Due.link(x, "l", "l/../..")), 7);
    }

    private static void meetingNames() {
        leads(0, "E", -2);
        leads(2, "E", 5);
        leads(18, "E", 5);
        leads(2, "F", 6);
        leads(2, "E/../F/.", 6);
        leads(16, "F", -2);
        SafePaths x = new SafePaths(2);
        x.take(Due.link(x, "a", "."));
        due.is("b to A/.. by the link a", x.take(Due.link(x, "b", "A/..")), -18);
    }

    private static void dividers() {
        leads(0, "e\\..", -2);
        leads(1, "e\\..", 4);
        leads(1, "\\e", -1);
        leads(0, "\\e", -2);
        leads(1, "..\\..", -1);
        leads(1, ".\\e/.\\..//f", 6);
    }

    private static void theTreeChanges() {
        SafePaths x = new SafePaths(32);
        x.take(Due.link(x, "l", "b/c/../.."));
        due.is("l by names alone", x.lead(4), 1);
        x.take(Due.link(x, "b", "."));
        due.is("l over b", x.lead(4), -1);
        due.is("b/x through a link", x.take(Due.file(x, "b/x", 1, 1)), -14);
        due.holds("inside()", x.inside());
        x.take(Due.file(x, "b", 1, 1));
        due.is("l over a file", x.lead(4), -2);
        due.is("a link over l", x.take(Due.link(x, "m", "l")), 7);
    }
}
