import java.util.ArrayList;
import java.util.List;
import java.util.function.Consumer;
import java.util.function.ToLongFunction;

/**
 * "What is refused changes nothing, but LISTED": two objects get the same calls, one of them a refused (or a merely
 * asking) call more; then all that can be seen of them must be the same.
 */
public final class UnchangedTest {
    private static final Due due = new Due();

    public static void main(String[] args) {
        refusedTakings();
        refusedTakingsAtTheLimits();
        refusedTakingsWhenFull();
        dryTakings();
        devicesChangeListedAlone();
        refusedDrafts();
        refusedEntries();
        refusedLimits();
        noSuchThings();
        asking();
        due.end();
    }

    /** All that can be seen: of the nodes those from this one on, so that few enough calls are made. */
    private static List<String> seen(Box x, int firstNode) {
        List<String> seen = new ArrayList<>();
        for (int what = 0; what < 8; what++) {
            seen.add("told(" + what + ") " + x.told(what));
        }
        seen.add("draft " + x.put('a'));
        int nodes = x.told(0);
        for (int node = firstNode; node < nodes; node++) {
            seeNode(x, seen, node);
        }
        for (int body = Math.max(0, x.told(1) - 5), end = x.told(1); body < end; body++) {
            seen.add("body " + body + " " + x.body(body, 0) + " " + x.body(body, 1) + " " + x.body(body, 2));
        }
        for (int path = 0, end = x.told(2); path < end; path++) {
            seen.add("path " + path + " " + x.part(path, 0, 0) + " " + x.part(path, 0, 1) + " " + x.part(path, 1, 0) + " "
                + x.find(path));
        }
        seeLimits(x, seen);
        seen.add("finish() " + x.finish());
        for (int node = firstNode; node < nodes; node++) {
            seen.add("then node " + node + " " + x.node(node, 0));
        }
        seen.add("inside() " + x.inside());
        return seen;
    }

    private static void seeNode(Box x, List<String> seen, int node) {
        seen.add("node " + node + " " + x.node(node, 0) + " " + x.node(node, 1) + " " + x.node(node, 2) + " " + x.nameOf(node)
            + " leads " + x.lead(node));
    }

    /** Entry 0 is an empty file, zz, that is never taken: it tells how much room there is. */
    private static void seeLimits(Box x, List<String> seen) {
        long nodes = x.limit(0, 1000);
        long sizes = x.limit(1, 0);
        seen.add("limits " + nodes + " " + sizes);
        int sum = 0;
        while (sum < 20 && x.dry(0) == -21) {
            sum++;
            x.limit(1, sum);
        }
        seen.add("sizes of all files " + sum);
    }

    private static void unchanged(String what, int firstNode, int rules, Consumer<Box> before, ToLongFunction<Box> call, long want) {
        Box with = new Box(rules);
        Box without = new Box(rules);
        before.accept(with);
        before.accept(without);
        due.is(what, call.applyAsLong(with), want);
        same(what, seen(with, firstNode), seen(without, firstNode));
    }

    private static void same(String what, List<String> with, List<String> without) {
        due.is(what + ": as much is seen", with.size(), without.size());
        for (int n = 0; n < Math.min(with.size(), without.size()); n++) {
            boolean same = with.get(n).equals(without.get(n));
            due.holds("after " + what + ": " + with.get(n) + ", without it: " + without.get(n), same);
        }
    }

    /**
     * Entry 0 as told; the SHUT folder s with s/f and s/d; f, taken twice, h that has its BODY, the link l and, if it may
     * come, the DEAD link k; the right of d, NOTED twice.
     */
    private static void build(Box x) {
        x.file("zz", 0);
        x.takeFolder("s", 1);
        x.takeFile("s/f", 3);
        x.takeFolder("s/d", 0);
        x.finish();
        int f = x.file("f", 2);
        x.take(f);
        x.take(f);
        x.takeHard("h", "f");
        x.takeLink("l", "s");
        x.takeLink("k", "/");
        x.takeFolder("d", 0);
        x.takeFolder("d", 1);
        x.takeDevice("x");
    }

    /** An entry that is made before, so that only its taking is the call more. */
    private static void refused(String what, int rules, ToLongFunction<Box> entry, long want) {
        Consumer<Box> before = x -> {
            build(x);
            entry.applyAsLong(x);
        };
        unchanged("take: " + what, 4, rules, before, x -> x.take(x.told(4) - 1), want);
        unchanged("dry: " + what, 4, rules, before, x -> x.dry(x.told(4) - 1), want);
    }

    private static void refusedTakings() {
        refused("-12 on the way", 34, x -> x.file("D/f", 1), -12);
        refused("-12 behind a new one", 34, x -> x.file("D/n/f", 1), -12);
        refused("-12 at the end", 34, x -> x.file("F", 1), -12);
        refused("-12 of a folder", 34, x -> x.folder("D", 1), -12);
        refused("-13", 6, x -> x.file("n/f", 1), -13);
        refused("-13 of a folder", 6, x -> x.folder("d/n/f", 1), -13);
        refused("-14", 32, x -> x.file("l/f", 1), -14);
        refused("-14 of a DEAD one", 36, x -> x.file("k/f", 1), -14);
        refused("-15", 32, x -> x.folder("f/f", 1), -15);
        refused("-16 on the way", 32, x -> x.file("s/n/f", 1), -16);
        refused("-16 at the end", 32, x -> x.file("s/n", 1), -16);
        refused("-16 in place", 32, x -> x.file("s/f", 1), -16);
        refused("-16 of a folder", 32, x -> x.folder("s/n", 1), -16);
        refused("-16 of a link", 36, x -> x.link("s/f", "f"), -16);
        refused("-16 of a hard one", 32, x -> x.hard("s/f", "f"), -16);
        refused("-17 of a file", 32, x -> x.file("d", 1), -17);
        refused("-17 of a folder", 32, x -> x.folder("f", 1), -17);
        refused("-17 of a link", 36, x -> x.link("d", "f"), -17);
        refused("-17 of a hard one", 32, x -> x.hard("d", "f"), -17);
        refused("-18", 32, x -> x.link("n", ".."), -18);
        refused("-18 in place", 32, x -> x.link("f", "/"), -18);
        refused("-18 behind new ones", 32, x -> x.link("n/m/l", "../../.."), -18);
        refused("-19", 32, x -> x.hard("n", "m"), -19);
        refused("-19 in place", 32, x -> x.hard("f", "l"), -19);
        refused("-19 behind new ones", 32, x -> x.hard("n/m/h", "d"), -19);
    }

    private static void overLimit(String what, int limit, long n, ToLongFunction<Box> entry) {
        refused(what, 32, x -> {
            x.limit(limit, n);
            return entry.applyAsLong(x);
        }, -21);
    }

    private static void refusedTakingsAtTheLimits() {
        overLimit("-21 of nodes: file", 0, 0, x -> x.file("n", 1));
        overLimit("-21 of nodes: file in place", 0, 8, x -> x.file("f", 1));
        overLimit("-21 of nodes: the way", 0, 10, x -> x.file("n/m/f", 1));
        overLimit("-21 of nodes: folder", 0, 8, x -> x.folder("n", 1));
        overLimit("-21 of nodes: folder behind one", 0, 9, x -> x.folder("n/m", 1));
        overLimit("-21 of nodes: link in place", 0, 8, x -> x.link("f", "."));
        overLimit("-21 of nodes: hard in place", 0, 8, x -> x.hard("f", "s/f"));
        overLimit("-21 of sizes: file", 1, 7, x -> x.file("n", 1));
        overLimit("-21 of sizes: file in place", 1, 8, x -> x.file("f", 2));
        overLimit("-21 of sizes: the way", 1, 8, x -> x.file("n/m/f", 2));
    }

    /** 199 NODES; the sizes of all files are 9; entry 1 is a file that is there. */
    private static void fill(Box x) {
        x.file("zz", 0);
        int f = x.file("f", 0);
        x.takeFolder("d", 1);
        x.takeFile("g", 9);
        x.fillNodes(f, 199);
    }

    private static void refusedTakingsWhenFull() {
        List<ToLongFunction<Box>> entries = List.of(x -> x.file("n/f", 1), x -> x.folder("n/f", 1), x -> x.link("n/l", "."),
            x -> x.hard("n/h", "f"), x -> x.file("n/m/f", 1));
        for (int n = 0; n < entries.size(); n++) {
            ToLongFunction<Box> entry = entries.get(n);
            Consumer<Box> before = x -> {
                fill(x);
                entry.applyAsLong(x);
            };
            unchanged("take: -6, " + n, 190, 32, before, x -> x.take(x.told(4) - 1), -6);
            unchanged("take: -6, " + n, 190, 32, before, x -> x.dry(x.told(4) - 1), -6);
        }
        Consumer<Box> full = x -> {
            fill(x);
            x.take(1);
        };
        unchanged("take: -6 in place", 190, 32, full, x -> x.take(1), -6);
        unchanged("take: -6 of a new file", 190, 32, full, x -> x.take(0), -6);
    }

    /** "nothing changes (LISTED neither)": also when it would be taken. */
    private static void dryTakings() {
        List<ToLongFunction<Box>> entries = List.of(x -> x.file("n", 1), x -> x.file("f", 1), x -> x.file("n/m/f", 1),
            x -> x.folder("n", 1), x -> x.folder("n/m", 1), x -> x.folder("d", 0), x -> x.folder("s/d", 1),
            x -> x.link("n", "."), x -> x.link("f", "d"), x -> x.link("l", "d"), x -> x.link("n/m/l", "d"),
            x -> x.link("n", "/"), x -> x.hard("n", "f"), x -> x.hard("f", "s/f"), x -> x.hard("f", "f"));
        for (int n = 0; n < entries.size(); n++) {
            ToLongFunction<Box> entry = entries.get(n);
            Consumer<Box> before = x -> {
                build(x);
                entry.applyAsLong(x);
            };
            unchanged("dry that would be taken, " + n, 4, 36, before, x -> x.dry(x.told(4) - 1), 0);
        }
    }

    private static void devicesChangeListedAlone() {
        for (String path : new String[] {"x", "d", "f", "l", "s/x", "s/d", "n/m/x"}) {
            Consumer<Box> before = x -> {
                build(x);
                x.device(path);
            };
            unchanged("dry of device " + path, 4, 36, before, x -> x.dry(x.told(4) - 1), -20);
            Box with = new Box(36);
            Box without = new Box(36);
            before.accept(with);
            before.accept(without);
            due.is("take of device " + path, with.take(with.told(4) - 1), -20);
            List<String> seenWith = seen(with, 4);
            List<String> seenWithout = seen(without, 4);
            due.holds("LISTED with it: " + seenWith.get(6), seenWith.remove(6).equals("told(6) 2"));
            due.holds("LISTED without it: " + seenWithout.get(6), seenWithout.remove(6).equals("told(6) 1"));
            same("device " + path, seenWith, seenWithout);
        }
    }

    /** A refused PATH or TARGET leaves an empty DRAFT, and else all as it was; a refused byte leaves the DRAFT, too. */
    private static void refusedDrafts() {
        String[] paths = {".", "/a", "..", "\u0001", "0123456789abcdefg"};
        for (int n = 0; n < paths.length; n++) {
            String path = paths[n];
            unchanged("path " + (-1 - n), 4, 36, UnchangedTest::build, x -> x.path(path), -1 - n);
        }
        unchanged("target of no bytes", 4, 36, UnchangedTest::build, x -> x.target(), -1);
        unchanged("target of 41 bytes", 4, 36, UnchangedTest::build, x -> x.target("a".repeat(41)), -1);
        for (int b : new int[] {-1, 256}) {
            unchanged("put(" + b + ")", 4, 36, x -> {
                build(x);
                x.draft("ab");
            }, x -> x.put(b), -5);
        }
        unchanged("path -6", 0, 0, x -> {
            for (int n = 0; n < 60; n++) {
                x.path("a");
            }
        }, x -> x.path("b"), -6);
        unchanged("target -6", 0, 0, x -> {
            x.file("zz", 0);
            for (int n = 0; n < 40; n++) {
                x.target("zz");
            }
            x.path("l");
            x.take(x.entry(2, 1, 39, 0));
            x.take(0);
        }, x -> x.target("l"), -6);
    }

    private static void refusedEntries() {
        unchanged("entry -7: kind", 4, 36, UnchangedTest::build, x -> x.entry(5, 0, 0, 0), -7);
        unchanged("entry -7: path", 4, 36, UnchangedTest::build, x -> x.entry(0, 60, 0, 0), -7);
        unchanged("entry -7: right", 4, 36, UnchangedTest::build, x -> x.entry(0, 0, 2, 0), -7);
        unchanged("entry -7: size", 4, 36, UnchangedTest::build, x -> x.entry(1, 0, 0, -1), -7);
        unchanged("entry -7: target", 4, 36, UnchangedTest::build, x -> x.entry(2, 0, 40, 0), -7);
        unchanged("entry -7: other path", 4, 36, UnchangedTest::build, x -> x.entry(3, 0, -1, 0), -7);
        unchanged("entry -6", 4, 36, x -> {
            build(x);
            for (int n = x.told(4); n < 100; n++) {
                x.entry(4, 0, 0, 0);
            }
        }, x -> x.entry(0, 0, 0, 0), -6);
    }

    private static void refusedLimits() {
        unchanged("limit(0, -1)", 4, 36, UnchangedTest::build, x -> x.limit(0, -1), -7);
        unchanged("limit(1, -1)", 4, 36, UnchangedTest::build, x -> x.limit(1, -1), -7);
        unchanged("limit(2, 5)", 4, 36, UnchangedTest::build, x -> x.limit(2, 5), -7);
        unchanged("limit(-1, 5)", 4, 36, UnchangedTest::build, x -> x.limit(-1, 5), -7);
    }

    private static void noSuchThings() {
        for (int none : new int[] {-1, 99, 300}) {
            unchanged("take(" + none + ")", 4, 36, UnchangedTest::build, x -> x.take(none), -7);
            unchanged("dry(" + none + ")", 4, 36, UnchangedTest::build, x -> x.dry(none), -7);
            unchanged("lead(" + none + ")", 4, 36, UnchangedTest::build, x -> x.lead(none), -7);
            unchanged("find(" + none + ")", 4, 36, UnchangedTest::build, x -> x.find(none), -7);
            unchanged("node(" + none + ", 0)", 4, 36, UnchangedTest::build, x -> x.node(none, 0), -7);
            unchanged("name(" + none + ", 0)", 4, 36, UnchangedTest::build, x -> x.name(none, 0), -1);
            unchanged("body(" + none + ", 0)", 4, 36, UnchangedTest::build, x -> x.body(none, 0), -7);
            unchanged("told(" + none + ")", 4, 36, UnchangedTest::build, x -> x.told(none), -7);
            unchanged("part(" + none + ", 0, 0)", 4, 36, UnchangedTest::build, x -> x.part(none, 0, 0), -1);
            unchanged("meets(" + none + ", 0)", 4, 36, UnchangedTest::build, x -> x.meets(none, 0), -7);
        }
    }

    /** Calls that only ask. */
    private static void asking() {
        unchanged("part", 4, 36, UnchangedTest::build, x -> x.part(0, 0, 0), 'z');
        unchanged("meets", 4, 36, UnchangedTest::build, x -> x.meets(0, 0), 1);
        unchanged("lead", 4, 36, UnchangedTest::build, x -> x.lead(10), 4);
        unchanged("find", 4, 36, UnchangedTest::build, x -> x.find(1), 4);
        unchanged("node", 4, 36, UnchangedTest::build, x -> x.node(7, 0), -1);
        unchanged("name", 4, 36, UnchangedTest::build, x -> x.name(4, 0), 's');
        unchanged("body", 4, 36, UnchangedTest::build, x -> x.body(3, 2), 2);
        unchanged("inside", 4, 36, UnchangedTest::build, x -> x.inside() ? 1 : 0, 1);
        unchanged("told", 4, 36, UnchangedTest::build, x -> x.told(7), 2);
    }
}
