/**
 * "Of several refusals the first by this order": each two refusals of a taking that can meet in one call, and the
 * later one alone, so that it is seen that both were there.
 */
public final class OrderTest {
    private static final Due due = new Due();

    public static void main(String[] args) {
        meetingBeforeLinkAndFile();
        lackingBeforeShut();
        wayBeforeKind();
        earlierPartBeforeLater();
        meetingBeforeAllOfTheKinds();
        placeBeforeShutAndBehind();
        shutBeforeTheKinds();
        outsideBeforeLimits();
        noFileBeforeLimits();
        deviceBeforeLimits();
        limitsBeforeFull();
        folderThatIsThere();
        due.end();
    }

    private static void is(Box x, String what, int entry, int want) {
        due.is("dry: " + what, x.dry(entry), want);
        due.is("take: " + what, x.take(entry), want);
    }

    /** A folder s that will be SHUT, with the file s/f, the folder s/d and the link s/l, and a file g. */
    private static Box tree(int rules) {
        Box x = new Box(rules);
        x.takeFolder("s", 1);
        x.takeFile("s/f", 1);
        x.takeFolder("s/d", 0);
        x.takeLink("s/l", ".");
        x.takeFile("g", 1);
        return x;
    }

    private static Box shutTree(int rules) {
        Box x = tree(rules);
        due.is("s is SHUT", x.finish(), 1);
        return x;
    }

    /** Nothing can come any more: -21, and -6 where that does not look. */
    private static void closeLimits(Box x, int file) {
        x.fillNodes(file, 200);
        x.limit(0, 0);
        x.limit(1, 0);
    }

    private static void meetingBeforeLinkAndFile() {
        Box x = tree(2);
        is(x, "-12 and -14", x.file("s/L/x", 1), -12);
        is(x, "-12 and -15", x.file("s/F/x", 1), -12);
        is(x, "-12 and -13", x.file("S/n/x", 1), -12);
        is(x, "-14 alone", x.file("s/l/x", 1), -14);
        is(x, "-15 alone", x.file("s/f/x", 1), -15);
        Box y = tree(18);
        is(y, "-14 by RULE 16", y.file("S/L/x", 1), -14);
        is(y, "-15 by RULE 16", y.file("S/F/x", 1), -15);
    }

    private static void lackingBeforeShut() {
        Box x = shutTree(0);
        is(x, "-13 and -16", x.file("s/n/x", 1), -13);
        Box y = shutTree(32);
        is(y, "-16 alone", y.file("s/n/x", 1), -16);
        Box z = tree(0);
        is(z, "-13 alone", z.file("s/n/x", 1), -13);
    }

    private static void wayBeforeKind() {
        int[] rules = {0, 32, 34, 32, 32};
        String[] ways = {"n", "s/n", "S", "s/l", "s/f"};
        int[] wants = {-13, -16, -12, -14, -15};
        for (int n = 0; n < ways.length; n++) {
            Box x = shutTree(rules[n]);
            String way = ways[n];
            int g = x.file("g", 1);
            int link = x.link(way + "/x", "/");
            int hard = x.hard(way + "/x", "none");
            int device = x.device(way + "/x");
            int folder = x.folder(way + "/x", 1);
            is(x, way + " and -18", link, wants[n]);
            is(x, way + " and -19", hard, wants[n]);
            is(x, way + " and -20", device, wants[n]);
            closeLimits(x, g);
            is(x, way + ", -21 and -6: folder", folder, wants[n]);
            is(x, way + ", -21 and -6: file", x.file(way + "/x", 1), wants[n]);
            is(x, way + ", -18, -21 and -6", link, wants[n]);
            due.is("LISTED", x.told(6), 0);
        }
    }

    /** The way is gone part by part: what an earlier part tells comes first, whatever its number. */
    private static void earlierPartBeforeLater() {
        Box x = tree(34);
        is(x, "-15, then what would MEET", x.file("s/f/D/x", 1), -15);
        is(x, "-14, then what would MEET", x.file("s/l/F/x", 1), -14);
        is(x, "-12, then -14", x.file("S/l/x", 1), -12);
        is(x, "-12, then -15", x.file("S/f/x", 1), -12);
        is(x, "-12 of the last part behind a fine way", x.file("s/D", 1), -12);
        Box y = shutTree(34);
        is(y, "-12, then -16", y.file("S/n/x", 1), -12);
    }

    private static void meetingBeforeAllOfTheKinds() {
        Box x = shutTree(2);
        int g = x.file("g", 1);
        int link = x.link("s/F", "/");
        int hard = x.hard("s/F", "none");
        is(x, "-12 and -17: file", x.file("s/D", 1), -12);
        is(x, "-12 and -17: folder", x.folder("s/F", 1), -12);
        is(x, "-12 and what would be it: folder", x.folder("s/D", 1), -12);
        is(x, "-12 and -16", x.file("s/F", 1), -12);
        is(x, "-12, -16 and -18", link, -12);
        is(x, "-12, -16 and -19", hard, -12);
        is(x, "-12 and -20", x.device("s/F"), -12);
        is(x, "-12 and what would be it: hard", x.hard("G", "g"), -12);
        closeLimits(x, g);
        is(x, "-12, -21 and -6", x.file("G", 1), -12);
        is(x, "-12, -16, -18, -21 and -6", link, -12);
        due.is("LISTED", x.told(6), 0);
    }

    private static void placeBeforeShutAndBehind() {
        Box x = shutTree(32);
        int g = x.file("g", 1);
        int[] entries = {x.file("s/d", 1), x.link("s/d", "/"), x.hard("s/d", "none"), x.folder("s/f", 1), x.folder("s/l", 1)};
        int[] open = {x.file("s", 1), x.link("s", "/"), x.hard("s", "none"), x.folder("g", 1)};
        for (int entry : entries) {
            is(x, "-17 and -16, entry " + entry, entry, -17);
        }
        for (int entry : open) {
            is(x, "-17 and what is behind, entry " + entry, entry, -17);
        }
        closeLimits(x, g);
        for (int entry : entries) {
            is(x, "-17, -16, -21 and -6, entry " + entry, entry, -17);
        }
        for (int entry : open) {
            is(x, "-17, -21 and -6, entry " + entry, entry, -17);
        }
    }

    private static void shutBeforeTheKinds() {
        Box x = shutTree(32);
        int g = x.file("g", 1);
        int[] entries = {x.link("s/n", "/"), x.link("s/f", "/"), x.hard("s/n", "none"), x.hard("s/f", "none"),
            x.hard("s/f", "s/f"), x.file("s/n", 1), x.file("s/f", 1), x.folder("s/n", 1)};
        for (int entry : entries) {
            is(x, "-16 and -18 or -19, entry " + entry, entry, -16);
        }
        closeLimits(x, g);
        for (int entry : entries) {
            is(x, "-16, -21 and -6, entry " + entry, entry, -16);
        }
        due.is("NOTED", x.told(7), 0);
    }

    private static void outsideBeforeLimits() {
        Box x = tree(32);
        int g = x.file("g", 1);
        int[] entries = {x.link("n", "/"), x.link("g", ".."), x.link("a/b/l", "../../..")};
        int fine = x.link("n", ".");
        for (int entry : entries) {
            is(x, "-18 alone, entry " + entry, entry, -18);
        }
        x.limit(0, 0);
        for (int entry : entries) {
            is(x, "-18 and -21, entry " + entry, entry, -18);
        }
        is(x, "-21 alone", fine, -21);
        x.limit(0, 1000);
        x.fillNodes(g, 200);
        for (int entry : entries) {
            is(x, "-18 and -6, entry " + entry, entry, -18);
        }
        is(x, "-6 alone", fine, -6);
    }

    private static void noFileBeforeLimits() {
        Box x = tree(32);
        int g = x.file("g", 1);
        int[] entries = {x.hard("n", "none"), x.hard("g", "s"), x.hard("a/h", "s/l")};
        int fine = x.hard("n", "g");
        for (int entry : entries) {
            is(x, "-19 alone, entry " + entry, entry, -19);
        }
        x.limit(0, 0);
        for (int entry : entries) {
            is(x, "-19 and -21, entry " + entry, entry, -19);
        }
        is(x, "-21 alone", fine, -21);
        x.limit(0, 1000);
        x.fillNodes(g, 200);
        for (int entry : entries) {
            is(x, "-19 and -6, entry " + entry, entry, -19);
        }
        is(x, "-6 alone", fine, -6);
    }

    private static void deviceBeforeLimits() {
        Box x = shutTree(32);
        int g = x.file("g", 1);
        int[] entries = {x.device("n"), x.device("a/b/n"), x.device("s"), x.device("s/d"), x.device("s/n"), x.device("s/f")};
        closeLimits(x, g);
        for (int entry : entries) {
            is(x, "-20, -17, -16, -21 and -6, entry " + entry, entry, -20);
        }
        due.is("LISTED", x.told(6), entries.length);
    }

    private static void limitsBeforeFull() {
        Box x = tree(32);
        int g = x.file("g", 1);
        int[] entries = {g, x.file("a/b/f", 1), x.folder("n", 1), x.link("l", "g"), x.hard("h", "g")};
        x.fillNodes(g, 200);
        for (int entry : entries) {
            is(x, "-6 alone, entry " + entry, entry, -6);
        }
        int made = x.told(5);
        x.limit(0, made);
        for (int entry : entries) {
            is(x, "-21 of nodes and -6, entry " + entry, entry, -21);
        }
        x.limit(0, made + 1);
        is(x, "one node may be made: -6", g, -6);
        is(x, "three would be made: -21", entries[1], -21);
        x.limit(0, made + 3);
        is(x, "three may be made: -6", entries[1], -6);
        x.limit(1, 0);
        is(x, "-21 of sizes and -6", g, -21);
        is(x, "-21 of sizes and -6 with the way", entries[1], -21);
        for (int n = 2; n < entries.length; n++) {
            is(x, "sizes are of files alone: -6", entries[n], -6);
        }
    }

    private static void folderThatIsThere() {
        Box x = shutTree(32);
        int g = x.file("g", 1);
        int s = x.folder("s", 1);
        int d = x.folder("s/d", 0);
        closeLimits(x, g);
        due.is("dry of a folder in a SHUT one, at all limits", x.dry(d), 0);
        due.is("take of a folder in a SHUT one, at all limits", x.take(d), 6);
        due.is("take of the SHUT one", x.take(s), 4);
        due.is("NOTED", x.told(7), 2);
    }
}
