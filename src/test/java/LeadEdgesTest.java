/** The edges that the document names of WHERE A LINK LEADS, and of links that are taken: promises 8 and 12. */
public final class LeadEdgesTest {
    private static final Due due = new Due();
    private static final int OUTSIDE = -1;
    private static final int NOWHERE = -2;
    private static final int RING = -3;

    public static void main(String[] args) {
        noSuchNode();
        partsArePassedOver();
        noPartAtAll();
        beginsAtTheTop();
        upToTheRootAndNoFurther();
        asSoonAsAFolderIsComeTo();
        aFileEnds();
        aDeadLinkEnds();
        namesAloneTillTheFolderIsReached();
        namesAloneLookAtNothing();
        namesAloneGoOnBehindALink();
        thenThoseBehind();
        twentyLinksInARow();
        twentyLinksSideBySide();
        twentyLinksNested();
        deadLinksAreNotGoneThrough();
        ringOrOutside();
        linksToThemselves();
        namesInATarget();
        longNamesInATarget();
        goneNodesAreNone();
        shutFoldersAreGoneThrough();
        deadOrRefused();
        yetToComeCountsAsNames();
        asTheTreeIsBefore();
        judgedAtThatMoment();
        longestWay();
        due.end();
    }

    /** A tree with the folders a (4), a/b (5), a/b/c (6) and the files f (7), a/f (8), a/b/f (9). */
    private static Box tree(int rules) {
        Box x = new Box(rules | 32);
        x.takeFolder("a/b/c", 0);
        x.takeFile("f", 1);
        x.takeFile("a/f", 1);
        x.takeFile("a/b/f", 1);
        return x;
    }

    /** Where a link at this path, in that tree, leads; links that lead OUTSIDE are refused. */
    private static void leads(int rules, String path, String target, int want) {
        Box x = tree(rules & ~4);
        String told = "rules " + rules + ": " + path + " to \"" + target + "\"";
        int answer = x.takeLink(path, target);
        due.is("take of " + told, answer, want == OUTSIDE ? -18 : 10);
        due.is("lead of " + told, x.lead(10), want == OUTSIDE ? -7 : want);
        if (want == OUTSIDE) {
            Box y = tree(rules | 4);
            due.is("take of " + told + " with RULE 4", y.takeLink(path, target), 10);
            due.is("it is DEAD: " + told, y.node(10, 0), 4);
            due.is("it leads NOWHERE: " + told, y.lead(10), NOWHERE);
        }
    }

    /** "-7: no such node, or it is GONE"; "other nodes: themselves". */
    private static void noSuchNode() {
        Box x = tree(4);
        for (int node = 0; node < 10; node++) {
            due.is("lead(" + node + ")", x.lead(node), node);
        }
        for (int none : new int[] {-1, 10, 199, 200, Integer.MIN_VALUE, Integer.MAX_VALUE}) {
            due.is("lead(" + none + ")", x.lead(none), -7);
        }
        int file = x.file("g", 1);
        int link = x.link("g", "a");
        int dead = x.link("g", "/");
        x.take(file);
        x.take(link);
        x.take(dead);
        due.is("a GONE file", x.lead(10), -7);
        due.is("a GONE link", x.lead(11), -7);
        due.is("a DEAD link", x.lead(12), NOWHERE);
        x.take(file);
        due.is("a GONE DEAD link", x.lead(12), -7);
    }

    /** "its TARGET's parts, ones without bytes and . passed over". */
    private static void partsArePassedOver() {
        for (String target : new String[] {"b/c", "./b/c", "b//c", "b/./c", "b/c/", "b/c/.", "b///././c//.", ".//b/c"}) {
            leads(0, "a/l", target, 6);
        }
        leads(0, "a/l", "b/c/...", NOWHERE);
        leads(0, "a/l", ".../..", 4);
        leads(0, "a/l", "b/ .", NOWHERE);
        leads(1, "a/l", ".\\b\\\\c\\.", 6);
        leads(0, "a/l", ".\\b", NOWHERE);
        leads(0, "a/l", "f/.//.", 8);
    }

    /** "When no part is left it leads to the folder where that is". */
    private static void noPartAtAll() {
        for (String target : new String[] {".", "./", "././.", ".//."}) {
            leads(0, "l", target, 1);
            leads(0, "a/l", target, 4);
            leads(0, "a/b/c/l", target, 6);
        }
    }

    /** "begins at THE TOP when its first byte parts"; "OUTSIDE ... also where it begins". */
    private static void beginsAtTheTop() {
        for (String target : new String[] {"/", "//", "/.", "/out", "/out/a", "/home/key", "/none", "/.."}) {
            leads(0, "l", target, OUTSIDE);
            leads(0, "a/b/l", target, OUTSIDE);
        }
        leads(1, "l", "\\", OUTSIDE);
        leads(1, "l", "\\out\\a", OUTSIDE);
        leads(0, "l", "\\", NOWHERE);
        leads(0, "l", "\\out", NOWHERE);
        leads(62, "l", "\\", NOWHERE);
        leads(0, "l", "./", 1);
        leads(1, "l", ".\\a", 4);
    }

    /** "..: to the folder that this one is in"; the ROOT itself is not OUTSIDE. */
    private static void upToTheRootAndNoFurther() {
        leads(0, "l", "..", OUTSIDE);
        leads(0, "a/l", "..", 1);
        leads(0, "a/l", "../..", OUTSIDE);
        leads(0, "a/b/l", "../..", 1);
        leads(0, "a/b/l", "../../..", OUTSIDE);
        leads(0, "a/b/c/l", "../../..", 1);
        leads(0, "a/b/c/l", "../../../..", OUTSIDE);
        leads(0, "a/b/c/l", "../../../../..", OUTSIDE);
        leads(0, "l", "a/..", 1);
        leads(0, "l", "a/../..", OUTSIDE);
        leads(0, "l", "a/b/c/../../..", 1);
        leads(0, "l", "a/b/c/../../../..", OUTSIDE);
        leads(0, "l", "a/../a/../a/../f", 7);
    }

    /** "OUTSIDE it leads as soon as a folder is come to": coming back does not help. */
    private static void asSoonAsAFolderIsComeTo() {
        for (String target : new String[] {"../out", "../out/f", "../out/a/b", "../home", "../home/key", "../none", "../home/../out",
            "../.", "../none/.."}) {
            leads(0, "l", target, OUTSIDE);
        }
        leads(0, "a/l", "../../out/a", OUTSIDE);
        leads(0, "l", "out", NOWHERE);
        leads(0, "l", "home/key", NOWHERE);
    }

    /** "a file ...: it leads there, if no part is left, else NOWHERE". */
    private static void aFileEnds() {
        leads(0, "l", "f", 7);
        leads(0, "l", "a/f", 8);
        leads(0, "l", "f/", 7);
        leads(0, "l", "f/.", 7);
        leads(0, "l", "f/x", NOWHERE);
        leads(0, "l", "f/..", NOWHERE);
        leads(0, "l", "f/../..", NOWHERE);
        leads(0, "l", "a/f/../f", NOWHERE);
        leads(0, "a/l", "../f/../../..", NOWHERE);
    }

    /** "or a DEAD link: it leads there, if no part is left, else NOWHERE". */
    private static void aDeadLinkEnds() {
        Box x = tree(4);
        due.is("the DEAD link", x.takeLink("d", "../home"), 10);
        String[] targets = {"d", "d/", "./d/.", "a/../d", "d/x", "d/..", "d/../..", "d/d"};
        int[] want = {10, 10, 10, 10, NOWHERE, NOWHERE, NOWHERE, NOWHERE};
        for (int n = 0; n < targets.length; n++) {
            due.is("link to " + targets[n], x.takeLink("l", targets[n]), 11 + n);
            due.is("is not DEAD", x.node(11 + n, 0), 3);
            due.is("it leads", x.lead(11 + n), want[n]);
        }
        due.is("a link to a link to the DEAD one", x.takeLink("k", "l"), 19);
        x.takeLink("l", "d");
        due.is("leads to the DEAD one", x.lead(19), 10);
    }

    /** "none: from then on names alone count, a name one down, .. one up, till this folder is reached again". */
    private static void namesAloneTillTheFolderIsReached() {
        leads(0, "a/l", "n", NOWHERE);
        leads(0, "a/l", "n/..", 4);
        leads(0, "a/l", "n/../..", 1);
        leads(0, "a/l", "n/../../..", OUTSIDE);
        leads(0, "a/l", "n/m", NOWHERE);
        leads(0, "a/l", "n/m/..", NOWHERE);
        leads(0, "a/l", "n/m/../..", 4);
        leads(0, "a/l", "n/m/../../..", 1);
        leads(0, "a/l", "n/m/../../../..", OUTSIDE);
        leads(0, "a/l", "n/../m/../b", 5);
        leads(0, "a/l", "n/../b/..", 4);
        leads(0, "a/l", "n/../f", 8);
        leads(0, "a/l", "n/o/../o/../../b/f", 9);
        leads(0, "l", "n/..", 1);
        leads(0, "l", "n/../..", OUTSIDE);
    }

    private static void namesAloneLookAtNothing() {
        leads(0, "a/l", "n/b", NOWHERE);
        leads(0, "a/l", "n/b/..", NOWHERE);
        leads(0, "a/l", "n/f", NOWHERE);
        leads(0, "a/l", "n/f/x/../../..", 4);
        leads(0, "a/l", "n/f/../../f", 8);
        leads(0, "a/l", "n/l/../../b", 5);
        Box x = tree(0);
        due.is("the link up", x.takeLink("a/up", ".."), 10);
        due.is("a link that is only a name is not gone through", x.takeLink("a/l", "n/up/../.."), 11);
        due.is("it leads", x.lead(11), 4);
        due.is("it is gone through when the folder is reached again", x.takeLink("a/m", "n/../up"), 12);
        due.is("it leads", x.lead(12), 1);
        due.is("and out of the ROOT behind it", x.takeLink("a/o", "n/../up/.."), -18);
    }

    /** "its TARGET's parts ... and then those behind": names alone in the one count for the other. */
    private static void namesAloneGoOnBehindALink() {
        Box x = tree(0);
        due.is("a/p to n/m", x.takeLink("a/p", "n/m"), 10);
        String[] targets = {"a/p", "a/p/..", "a/p/../..", "a/p/../../..", "a/p/../../b", "a/p/b", "a/p/../b/../../f"};
        int[] want = {NOWHERE, NOWHERE, 4, 1, 5, NOWHERE, 8};
        for (int n = 0; n < targets.length; n++) {
            due.is("link to " + targets[n], x.takeLink("l", targets[n]), 11 + n);
            due.is("it leads", x.lead(11 + n), want[n]);
        }
        due.is("a/p/../../../..", x.takeLink("m", "a/p/../../../.."), -18);
    }

    private static void thenThoseBehind() {
        Box x = tree(0);
        due.is("p to a/b", x.takeLink("p", "a/b"), 10);
        due.is("q to p/..", x.takeLink("q", "p/.."), 11);
        due.is("r to p/f", x.takeLink("r", "p/f"), 12);
        int[] leads = {5, 4, 9};
        for (int n = 0; n < leads.length; n++) {
            due.is("lead(" + (10 + n) + ")", x.lead(10 + n), leads[n]);
        }
        String[] targets = {"p/c", "p/../f", "q/b/c", "q/f", "q/../f", "q/../p/../b/f", "r/x", "r/.", "p/n/.."};
        int[] want = {6, 8, 6, 8, 7, 9, NOWHERE, 9, 5};
        for (int n = 0; n < targets.length; n++) {
            due.is("link to " + targets[n], x.takeLink("l", targets[n]), 13 + n);
            due.is("it leads", x.lead(13 + n), want[n]);
        }
        due.is("q/../..", x.takeLink("m", "q/../.."), -18);
        due.is("a link's parts begin at its own folder", x.takeLink("a/s", "../a/b/f"), 22);
        due.is("whoever goes through it", x.takeLink("t", "a/s"), 23);
        due.is("it leads", x.lead(23), 9);
    }

    /** "RING, if 20 links were gone through so already": 20 links are fine, the 21st is not. */
    private static void twentyLinksInARow() {
        Box x = new Box(0);
        x.takeFile("f", 1);
        x.takeLink("A", "f");
        for (char c = 'B'; c <= 'U'; c++) {
            x.takeLink(String.valueOf(c), String.valueOf((char) (c - 1)));
        }
        due.is("the last link goes through 20", x.lead(25), 4);
        due.is("a link that goes through 21 comes", x.takeLink("V", "U"), 26);
        due.is("it is not DEAD", x.node(26, 0), 3);
        due.is("it leads", x.lead(26), RING);
        due.is("one that goes through 22", x.takeLink("W", "V"), 27);
        due.is("it leads", x.lead(27), RING);
        due.is("the others lead as before", x.lead(25), 4);
    }

    private static void twentyLinksSideBySide() {
        Box x = new Box(0);
        due.is("s to .", x.takeLink("s", "."), 4);
        due.is("20 times s", x.takeLink("l", "s/s/s/s/s/s/s/s/s/s/s/s/s/s/s/s/s/s/s/s"), 5);
        due.is("it leads", x.lead(5), 1);
        due.is("through it and s", x.takeLink("m", "l"), 6);
        due.is("it leads", x.lead(6), RING);
        due.is("19 times s", x.takeLink("l", "s/s/s/s/s/s/s/s/s/s/s/s/s/s/s/s/s/s/s"), 7);
        due.is("through it", x.lead(6), 1);
        due.is("through it and once more", x.takeLink("m", "l/s"), 8);
        due.is("it leads", x.lead(8), RING);
        due.is("names alone behind 20 links", x.takeLink("n", "l/none/.."), 9);
        due.is("they lead", x.lead(9), 1);
    }

    /** The count is of the whole way, and begins anew with each call. */
    private static void twentyLinksNested() {
        Box x = new Box(0);
        x.takeLink("s", ".");
        x.takeLink("t", "s/s/s/s");
        x.takeLink("u", "t/t/t/t");
        due.is("4 times (1 + 4)", x.lead(6), 1);
        x.takeLink("v", "t/t/t/t/s");
        due.is("one more", x.lead(7), RING);
        due.is("and again", x.lead(6), 1);
        due.is("and again", x.lead(7), RING);
        due.is("and again", x.lead(6), 1);
    }

    private static void deadLinksAreNotGoneThrough() {
        Box x = new Box(4);
        x.takeLink("s", ".");
        x.takeLink("d", "/");
        x.takeLink("l", "s/s/s/s/s/s/s/s/s/s/s/s/s/s/s/s/s/s/s");
        x.takeLink("m", "l/d");
        due.is("a DEAD link behind 20 links", x.lead(7), 5);
        x.takeLink("n", "l/s/d");
        due.is("a 21st link before the DEAD one", x.lead(8), RING);
    }

    private static void ringOrOutside() {
        Box x = new Box(0);
        x.takeLink("r", "r");
        due.is("a ring, then up: not OUTSIDE", x.takeLink("l", "r/../.."), 5);
        due.is("it leads", x.lead(5), RING);
        due.is("up, then the ring: OUTSIDE", x.takeLink("m", "../r"), -18);
        x.takeLink("s", ".");
        due.is("20 links, then up: OUTSIDE", x.takeLink("m", "s/s/s/s/s/s/s/s/s/s/s/s/s/s/s/s/s/s/.."), -18);
        x.takeLink("t", "s/s/s/s/s/s/s/s/s/s");
        due.is("t/t is 22 links: RING", x.takeLink("m", "t/t/.."), 8);
        due.is("it leads", x.lead(8), RING);
        due.is("t/s.. is 20 links: OUTSIDE", x.takeLink("n", "t/s/s/s/s/s/s/s/s/s/.."), -18);
        due.is("t/s.. is 21 links: RING", x.takeLink("n", "t/s/s/s/s/s/s/s/s/s/s/.."), 9);
        due.is("it leads", x.lead(9), RING);
    }

    private static void linksToThemselves() {
        Box x = new Box(32);
        String[] paths = {"a", "b", "c", "d/e"};
        String[] targets = {"a", "./b/.", "c/x", "../d/e"};
        for (int n = 0; n < paths.length; n++) {
            int node = x.takeLink(paths[n], targets[n]);
            due.is(paths[n] + " to " + targets[n], x.lead(node), RING);
        }
        x.takeLink("p", "q");
        due.is("p to none", x.lead(9), NOWHERE);
        x.takeLink("q", "p");
        due.is("p to q to p", x.lead(9), RING);
        due.is("q to p to q", x.lead(10), RING);
    }

    /** "A name, by what it is IN this folder": the same name, or by RULE 2 one that MEETS, whatever RULE 16 tells. */
    private static void namesInATarget() {
        for (int rules : new int[] {0, 16, 61}) {
            leads(rules, "l", "A", NOWHERE);
            leads(rules, "l", "a/F", NOWHERE);
            leads(rules, "l", "A/..", 1);
        }
        for (int rules : new int[] {2, 18, 63}) {
            leads(rules, "l", "A", 4);
            leads(rules, "l", "a/F", 8);
            leads(rules, "l", "A/B/..", 4);
            leads(rules, "l", "A/../..", OUTSIDE);
        }
        leads(2, "l", "a@", NOWHERE);
        leads(2, "l", "aa", NOWHERE);
    }

    /** A TARGET's parts may be longer than any name and hold any bytes: no node has such a name. */
    private static void longNamesInATarget() {
        leads(0, "l", "0123456789abcdef0123456789abcdef/../f", 7);
        leads(0, "l", "\u0000/../f", 7);
        leads(8, "l", "con/../f", 7);
        leads(0, "l", "c:/../a", 4);
        leads(0, "l", "c:", NOWHERE);
        Box x = new Box(0);
        x.takeFile("0123456789abcdef", 1);
        x.takeLink("l", "0123456789abcdef");
        x.takeLink("m", "0123456789abcdefg");
        x.takeLink("n", "0123456789abcde");
        due.is("a name of 16 bytes", x.lead(5), 4);
        due.is("one of 17 bytes", x.lead(6), NOWHERE);
        due.is("one of 15 bytes", x.lead(7), NOWHERE);
    }

    private static void goneNodesAreNone() {
        Box x = new Box(18);
        int file = x.file("g", 1);
        x.takeLink("l", "g");
        due.is("none yet", x.lead(4), NOWHERE);
        x.take(file);
        due.is("the file", x.lead(4), 5);
        x.take(file);
        due.is("the new file, not the GONE one", x.lead(4), 6);
        x.takeLink("G", ".");
        due.is("the link in its place, though only MEETING", x.lead(4), 1);
        x.take(file);
        due.is("the file in its place", x.lead(4), 8);
    }

    private static void shutFoldersAreGoneThrough() {
        Box x = tree(0);
        x.takeFolder("a", 1);
        x.takeFolder("a/b", 1);
        due.is("SHUT folders", x.finish(), 2);
        due.is("a link through them", x.takeLink("l", "a/b/f"), 10);
        due.is("it leads", x.lead(10), 9);
        due.is("a link to one", x.takeLink("m", "a/b/c/.."), 11);
        due.is("it leads", x.lead(11), 5);
    }

    /** "-18 it would lead OUTSIDE, without RULE 4; else it comes, DEAD if it would lead OUTSIDE". */
    private static void deadOrRefused() {
        for (int rules = 0; rules < 64; rules++) {
            boolean rule4 = (rules & 4) != 0;
            Box x = new Box(rules);
            due.is("rules " + rules + ", link to ..", x.takeLink("l", ".."), rule4 ? 4 : -18);
            due.is("what it is", x.node(4, 0), rule4 ? 4 : -7);
            Box y = new Box(rules);
            due.is("rules " + rules + ", link to .", y.takeLink("l", "."), 4);
            due.is("what it is", y.node(4, 0), 3);
            Box z = new Box(rules);
            due.is("rules " + rules + ", link to none", z.takeLink("l", "none/x"), 4);
            due.is("what it is", z.node(4, 0), 3);
        }
    }

    /** "what is yet to come on its way counts as names alone". */
    private static void yetToComeCountsAsNames() {
        String[] targets = {".", "..", "../..", "../../..", "../../../..", "n/../../..", "../a", "../../l", "../../../a"};
        int[] want = {0, 0, 0, -18, -18, 0, 0, 0, -18};
        for (int n = 0; n < targets.length; n++) {
            Box x = new Box(32);
            int link = x.link("x/y/l", targets[n]);
            due.is("dry of x/y/l to " + targets[n], x.dry(link), want[n]);
            due.is("take of x/y/l to " + targets[n], x.take(link), want[n] == 0 ? 6 : -18);
        }
        Box x = tree(0);
        x.takeLink("a/up", "..");
        due.is("a/n/l to ../up/.., by the link that is there", x.takeLink("a/n/l", "../up/.."), -18);
        due.is("a/n/l to up/../.., by names", x.takeLink("a/n/l", "up/../../b"), 12);
        due.is("it leads", x.lead(12), 5);
        Box y = new Box(36);
        due.is("of eight parts, up seven", y.takeLink("a/b/c/d/e/f/g/l", "../../../../../../.."), 11);
        due.is("it leads to the ROOT", y.lead(11), 1);
        due.is("of eight parts, up eight", y.takeLink("t/b/c/d/e/f/g/l", "../../../../../../../.."), 19);
        due.is("it is DEAD", y.node(19, 0), 4);
    }

    /** "as the tree is before anything comes": the node whose place the link takes is still there. */
    private static void asTheTreeIsBefore() {
        Box x = new Box(0);
        due.is("l to l/.., none there: by names", x.takeLink("l", "l/.."), 4);
        due.is("it is a ring then", x.lead(4), RING);
        due.is("l to .", x.takeLink("l", "."), 5);
        due.is("l to l/.., through the link there", x.takeLink("l", "l/.."), -18);
        due.is("the link is still there", x.lead(5), 1);
        due.is("a file there", x.takeFile("l", 1), 6);
        due.is("l to l/../.., behind the file", x.takeLink("l", "l/../.."), 7);
        due.is("it is a ring then", x.lead(7), RING);
        Box y = new Box(32);
        due.is("d/l to ../d/../..: d is only a name", y.takeLink("d/l", "../d/../.."), -18);
        due.is("d/l to ../d/..", y.takeLink("d/l", "../d/.."), 5);
        due.is("it leads", y.lead(5), 1);
    }

    /** "links judged by where they lead at that moment". */
    private static void judgedAtThatMoment() {
        Box x = new Box(4);
        due.is("l to n/m/../..", x.takeLink("l", "n/m/../.."), 4);
        due.is("by names alone", x.lead(4), 1);
        due.is("n to .", x.takeLink("n", "."), 5);
        due.is("l leads OUTSIDE now", x.lead(4), OUTSIDE);
        due.is("but it is not DEAD", x.node(4, 0), 3);
        due.is("a link through it is DEAD", x.takeLink("k", "l"), 6);
        due.is("it is", x.node(6, 0), 4);
        due.is("n is a file", x.takeFile("n", 1), 7);
        due.is("l leads NOWHERE now", x.lead(4), NOWHERE);
        due.is("the DEAD one stays DEAD", x.node(6, 0), 4);
        due.is("and leads", x.lead(6), NOWHERE);
        due.holds("inside()", x.inside());
    }

    /** A way as long as 20 links and TARGETS of 40 bytes allow ends with what is due, not with RING. */
    private static void longestWay() {
        Box x = new Box(0);
        due.is("q, of 16 parts", x.takeLink("q", "n/../n/../n/../n/../n/../n/../n/../n/.."), 4);
        due.is("it leads", x.lead(4), 1);
        due.is("l, 20 times q", x.takeLink("l", "q/q/q/q/q/q/q/q/q/q/q/q/q/q/q/q/q/q/q/q"), 5);
        due.is("it leads", x.lead(5), 1);
        due.is("through l and 20 times q", x.takeLink("m", "l"), 6);
        due.is("it leads", x.lead(6), RING);
        due.is("19 times q and up", x.takeLink("k", "q/q/q/q/q/q/q/q/q/q/q/q/q/q/q/q/q/q/q/.."), -18);
        due.is("20 parts that are none", x.takeLink("k", "n/n/n/n/n/n/n/n/n/n/n/n/n/n/n/n/n/n/n/n"), 7);
        due.is("they lead", x.lead(7), NOWHERE);
        due.is("up again by as many", x.takeLink("o", "k/../../../../../../../../../../../../.."), 8);
        due.is("not by all of them", x.lead(8), NOWHERE);
        due.is("and by the rest", x.takeLink("p", "o/../../../../../../.."), 9);
        due.is("by all of them", x.lead(9), 1);
        due.is("and by one more", x.takeLink("r", "o/../../../../../../../.."), -18);
    }
}
