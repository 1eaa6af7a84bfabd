import java.util.ArrayDeque;
import java.util.ArrayList;
import java.util.Arrays;
import java.util.Deque;
import java.util.List;
import java.util.Locale;

/** The document once more, written with the whole Java library and nothing of SafePaths, to compare answers with. */
final class Model {
    private static final class Thing {
        String kind;
        Thing in;
        String name;
        int body = -1;
        int target = -1;
        boolean gone;

        Thing(String kind, Thing in, String name) {
            this.kind = kind;
            this.in = in == null ? this : in;
            this.name = name;
        }
    }

    private static final class Refused extends RuntimeException {
        private static final long serialVersionUID = 1L;
        final int why;

        Refused(int why) {
            this.why = why;
        }
    }

    private final int rules;
    private String draft = "";
    private final List<List<String>> paths = new ArrayList<>();
    private final List<String> targets = new ArrayList<>();
    private final List<long[]> entries = new ArrayList<>();
    private final List<Thing> things = new ArrayList<>();
    private final List<long[]> bodies = new ArrayList<>();
    private final List<Object[]> noted = new ArrayList<>();
    private final long[] limits = {1000000, 1L << 62};
    private long made = 0;
    private long sizes = 0;
    private int listed = 0;

    Model(int rules) {
        this.rules = Math.floorMod(rules, 64);
        Thing top = new Thing("open", null, "");
        Thing root = new Thing("open", top, "out");
        Thing home = new Thing("open", top, "home");
        Thing key = new Thing("file", home, "key");
        key.body = 0;
        things.addAll(List.of(top, root, home, key));
        bodies.add(new long[] {8, 42});
    }

    private boolean rule(int bit) {
        return rules / bit % 2 == 1;
    }

    private List<String> parted(String text) {
        List<String> parts = new ArrayList<>(Arrays.asList(text.split(rule(1) ? "[/\\\\]" : "/")));
        parts.removeIf(part -> part.isEmpty() || part.equals("."));
        return parts;
    }

    private boolean fromTop(String text) {
        return text.startsWith("/") || rule(1) && text.startsWith("\\");
    }

    private boolean meet(String a, String b) {
        return a.equals(b) || rule(2) && small(a).equals(small(b));
    }

    private static String small(String text) {
        StringBuilder out = new StringBuilder();
        for (char c : text.toCharArray()) {
            out.append(c < 128 ? String.valueOf(c).toLowerCase(Locale.ROOT) : String.valueOf(c));
        }
        return out.toString();
    }

    int put(int b) {
        if (b < 0 || b > 255 || draft.length() == 160) {
            return -5;
        }
        draft += (char) b;
        return draft.length();
    }

    int path() {
        String text = draft;
        draft = "";
        List<String> parts = parted(text);
        if (parts.isEmpty()) {
            return -1;
        }
        if (fromTop(text) || text.matches("(?s)[A-Za-z]:.*")) {
            return -2;
        }
        if (parts.contains("..")) {
            return -3;
        }
        if (parts.stream().anyMatch(this::isBad)) {
            return -4;
        }
        if (parts.size() > 8 || parts.stream().anyMatch(part -> part.length() > 16)) {
            return -5;
        }
        if (paths.size() == 60) {
            return -6;
        }
        paths.add(parts);
        return paths.size() - 1;
    }

    private boolean isBad(String part) {
        if (part.matches("(?s).*[\\x00-\\x1f\\x7f].*")) {
            return true;
        }
        return rule(8) && (part.matches("(?s).*[:*?\"<>|].*") || part.endsWith(".") || part.endsWith(" ")
            || part.matches("(?si)(con|prn|aux|nul|(com|lpt)[1-9])(\\..*)?"));
    }

    int part(int path, int k, int i) {
        if (path < 0 || path >= paths.size() || k < 0 || k >= paths.get(path).size()) {
            return -1;
        }
        String part = paths.get(path).get(k);
        return i < 0 || i >= part.length() ? -1 : part.charAt(i);
    }

    int meets(int a, int b) {
        if (a < 0 || b < 0 || a >= paths.size() || b >= paths.size()) {
            return -7;
        }
        List<String> one = paths.get(a);
        List<String> two = paths.get(b);
        boolean all = one.size() == two.size();
        for (int k = 0; all && k < one.size(); k++) {
            all = meet(one.get(k), two.get(k));
        }
        return all ? 1 : 0;
    }

    int target() {
        String text = draft;
        draft = "";
        if (text.isEmpty() || text.length() > 40) {
            return -1;
        }
        if (targets.size() == 40) {
            return -6;
        }
        targets.add(text);
        return targets.size() - 1;
    }

    int entry(int kind, int path, int with, long size) {
        boolean fine = path >= 0 && path < paths.size();
        switch (kind) {
            case 0: fine &= with == 0 || with == 1; break;
            case 1: fine &= size >= 0 && size <= 1099511627776L; break;
            case 2: fine &= with >= 0 && with < targets.size(); break;
            case 3: fine &= with >= 0 && with < paths.size(); break;
            case 4: break;
            default: fine = false;
        }
        if (!fine) {
            return -7;
        }
        if (entries.size() == 100) {
            return -6;
        }
        entries.add(new long[] {kind, path, with, size});
        return entries.size() - 1;
    }

    private Thing in(Thing folder, String name) {
        for (Thing thing : things) {
            if (!thing.gone && thing.in == folder && thing.name.equals(name)) {
                return thing;
            }
        }
        for (Thing thing : things) {
            if (!thing.gone && thing.in == folder && meet(thing.name, name)) {
                return thing;
            }
        }
        return null;
    }

    private static boolean isFolder(Thing thing) {
        return thing.kind.equals("open") || thing.kind.equals("shut");
    }

    private static boolean isLink(Thing thing) {
        return thing.kind.equals("link") || thing.kind.equals("dead");
    }

    private boolean isBelowRoot(Thing thing) {
        for (Thing at = thing; at != things.get(0); at = at.in) {
            if (at == things.get(1)) {
                return true;
            }
        }
        return false;
    }

    private int leads(Thing folder, int names, String target) {
        Thing at = fromTop(target) ? things.get(0) : folder;
        Deque<String> left = new ArrayDeque<>(parted(target));
        int passed = 0;
        while (true) {
            if (!isBelowRoot(at)) {
                return -1;
            }
            if (left.isEmpty()) {
                return names > 0 ? -2 : things.indexOf(at);
            }
            String part = left.removeFirst();
            if (names > 0) {
                names += part.equals("..") ? -1 : 1;
            } else if (part.equals("..")) {
                at = at.in;
            } else {
                Thing next = in(at, part);
                if (next == null) {
                    names = 1;
                } else if (isFolder(next)) {
                    at = next;
                } else if (next.kind.equals("link")) {
                    if (passed == 20) {
                        return -3;
                    }
                    passed++;
                    List<String> more = parted(targets.get(next.target));
                    for (int k = more.size(); k > 0; k--) {
                        left.addFirst(more.get(k - 1));
                    }
                    at = fromTop(targets.get(next.target)) ? things.get(0) : next.in;
                } else {
                    return left.isEmpty() ? things.indexOf(next) : -2;
                }
            }
        }
    }

    private static void refuseIf(boolean so, int why) {
        if (so) {
            throw new Refused(why);
        }
    }

    /** Goes a PATH by parts, all but the last so many; names that come are added to those that come. */
    private Thing walk(List<String> parts, List<String> coming) {
        Thing at = things.get(1);
        for (String part : parts) {
            Thing next = coming.isEmpty() ? in(at, part) : null;
            if (next == null) {
                refuseIf(!rule(32), -13);
                refuseIf(coming.isEmpty() && at.kind.equals("shut"), -16);
                coming.add(part);
            } else {
                refuseIf(!next.name.equals(part) && !rule(16), -12);
                refuseIf(isLink(next), -14);
                refuseIf(!isFolder(next), -15);
                at = next;
            }
        }
        return at;
    }

    private Thing last(Thing at, String part) {
        Thing there = in(at, part);
        refuseIf(there != null && !there.name.equals(part) && !rule(16), -12);
        return there;
    }

    private Thing otherFile(List<String> parts) {
        try {
            List<String> coming = new ArrayList<>();
            Thing at = walk(parts.subList(0, parts.size() - 1), coming);
            Thing there = coming.isEmpty() ? last(at, parts.get(parts.size() - 1)) : null;
            refuseIf(there == null || !there.kind.equals("file"), -19);
            return there;
        } catch (Refused refused) {
            throw new Refused(-19);
        }
    }

    private int doTake(long[] entry, boolean dry) {
        int kind = (int) entry[0];
        List<String> parts = paths.get((int) entry[1]);
        List<String> coming = new ArrayList<>();
        Thing at = walk(parts.subList(0, parts.size() - 1), coming);
        String name = parts.get(parts.size() - 1);
        Thing there = coming.isEmpty() ? last(at, name) : null;
        boolean shut = coming.isEmpty() && at.kind.equals("shut");
        if (kind == 4) {
            listed += dry ? 0 : 1;
            return -20;
        }
        if (kind == 0 && there != null) {
            refuseIf(!isFolder(there), -17);
            if (!dry) {
                noted.add(new Object[] {there, entry[2]});
            }
            return dry ? 0 : things.indexOf(there);
        }
        refuseIf(there != null && isFolder(there), -17);
        refuseIf(shut, -16);
        Thing comes = new Thing(List.of("open", "file", "link", "file").get(kind), at, name);
        if (kind == 2) {
            comes.target = (int) entry[2];
            if (leads(at, coming.size(), targets.get(comes.target)) == -1) {
                refuseIf(!rule(4), -18);
                comes.kind = "dead";
            }
        }
        if (kind == 3) {
            Thing file = otherFile(paths.get((int) entry[2]));
            if (file == there) {
                return dry ? 0 : things.indexOf(file);
            }
            comes.body = file.body;
        }
        refuseIf(made + coming.size() + 1 > limits[0], -21);
        refuseIf(kind == 1 && sizes + entry[3] > limits[1], -21);
        refuseIf(things.size() + coming.size() + 1 > 200, -6);
        if (dry) {
            return 0;
        }
        for (String folder : coming) {
            at = new Thing("open", at, folder);
            things.add(at);
        }
        made += coming.size() + 1;
        if (kind == 1) {
            sizes += entry[3];
            comes.body = bodies.size();
            bodies.add(new long[] {entry[3], entry[2]});
        }
        if (there != null) {
            there.gone = true;
        }
        comes.in = at;
        things.add(comes);
        if (kind == 0) {
            noted.add(new Object[] {comes, entry[2]});
        }
        return things.size() - 1;
    }

    private int attempt(int entry, boolean dry) {
        if (entry < 0 || entry >= entries.size()) {
            return -7;
        }
        try {
            return doTake(entries.get(entry), dry);
        } catch (Refused refused) {
            return refused.why;
        }
    }

    int take(int entry) {
        return attempt(entry, false);
    }

    int dry(int entry) {
        return attempt(entry, true);
    }

    int finish() {
        for (Object[] note : noted) {
            ((Thing) note[0]).kind = (Long) note[1] == 1 ? "shut" : "open";
        }
        noted.clear();
        return (int) things.stream().filter(thing -> thing.kind.equals("shut")).count();
    }

    long limit(int what, long n) {
        if (what < 0 || what > 1 || n < 0) {
            return -7;
        }
        long was = limits[what];
        limits[what] = n;
        return was;
    }

    int lead(int node) {
        if (node < 0 || node >= things.size() || things.get(node).gone) {
            return -7;
        }
        Thing thing = things.get(node);
        if (thing.kind.equals("dead")) {
            return -2;
        }
        return thing.kind.equals("link") ? leads(thing.in, 0, targets.get(thing.target)) : node;
    }

    int find(int path) {
        if (path < 0 || path >= paths.size()) {
            return -7;
        }
        Thing at = things.get(1);
        for (String part : paths.get(path)) {
            at = at != null && isFolder(at) ? in(at, part) : null;
        }
        return at == null ? -2 : things.indexOf(at);
    }

    int node(int node, int what) {
        if (node < 0 || node >= things.size() || what < 0 || what > 3) {
            return -7;
        }
        Thing thing = things.get(node);
        if (what == 0) {
            return thing.gone ? -1 : List.of("open", "shut", "file", "link", "dead").indexOf(thing.kind);
        }
        if (what == 1) {
            return things.indexOf(thing.in);
        }
        if (what == 3) {
            return thing.name.length();
        }
        if (thing.gone) {
            return -1;
        }
        if (isFolder(thing)) {
            return (int) things.stream().filter(other -> other.in == thing && !other.gone).count();
        }
        return Math.max(thing.body, thing.target);
    }

    int name(int node, int i) {
        boolean is = node >= 0 && node < things.size() && i >= 0 && i < things.get(node).name.length();
        return is ? things.get(node).name.charAt(i) : -1;
    }

    long body(int body, int what) {
        if (body < 0 || body >= bodies.size() || what < 0 || what > 2) {
            return -7;
        }
        return what < 2 ? bodies.get(body)[what]
            : things.stream().filter(thing -> !thing.gone && thing.body == body).count();
    }

    int told(int what) {
        int[] told = {things.size(), bodies.size(), paths.size(), targets.size(), entries.size(), (int) made, listed,
            noted.size()};
        return what < 0 || what >= told.length ? -7 : told[what];
    }
}
