import java.util.ArrayList;

/** Takes the entries of an archive out into the ROOT of a tree and changes nothing outside of it. */
public final class SafePaths {
    private static final int FINE = 0;

    private static final int NO_PART = -1;
    private static final int NOT_RELATIVE = -2;
    private static final int GOES_UP = -3;
    private static final int BAD_NAME = -4;
    private static final int TOO_LONG = -5;
    private static final int FULL = -6;
    private static final int NO_SUCH = -7;

    private static final int MEETS_ANOTHER = -12;
    private static final int FOLDER_LACKS = -13;
    private static final int WAY_HAS_LINK = -14;
    private static final int WAY_HAS_FILE = -15;
    private static final int FOLDER_IS_SHUT = -16;
    private static final int PLACE_IS_TAKEN = -17;
    private static final int LEADS_OUTSIDE = -18;
    private static final int NO_FILE_TO_SHARE = -19;
    private static final int IS_DEVICE = -20;
    private static final int OVER_LIMIT = -21;

    private static final int OUTSIDE = -1;
    private static final int NOWHERE = -2;
    private static final int RING = -3;
    private static final int UNDER_WAY = -4;

    private static final int FOLDER = 0;
    private static final int FILE = 1;
    private static final int LINK = 2;
    private static final int HARD = 3;
    private static final int DEVICE = 4;

    private static final int MOST_DRAFT_BYTES = 160;
    private static final int MOST_PATHS = 60;
    private static final int MOST_PATH_PARTS = 8;
    private static final int MOST_PART_BYTES = 16;
    private static final int MOST_TARGETS = 40;
    private static final int MOST_TARGET_BYTES = 40;
    private static final int MOST_ENTRIES = 100;
    private static final int MOST_NODES = 200;
    private static final int MOST_LINKS_PASSED = 20;
    private static final int MOST_CALLS = 512;
    private static final long MOST_FILE_SIZE = 1L << 40;

    // 21 targets of at most 20 parts each can be gone through in one walk: this is far above that.
    private static final int MOST_STEPS = 1000;

    private static final int SLASH = 47;
    private static final int BACKSLASH = 92;
    private static final int DOT = 46;
    private static final int BLANK = 32;
    private static final int COLON = 58;
    private static final int DELETE = 127;

    private static final String MARKS_OF_OTHER_SYSTEMS = ":*?\"<>|";
    private static final String KEPT_WORDS = "conprnauxnul";
    private static final String KEPT_WORDS_WITH_DIGIT = "comlpt";

    private static final int[] NO_BYTES = {};
    private static final int[] OUT = {111, 117, 116};
    private static final int[] HOME = {104, 111, 109, 101};
    private static final int[] KEY = {107, 101, 121};

    private final Rules rules;
    private final Draft draft;
    private final ArrayList<Parted> paths;
    private final ArrayList<Parted> targets;
    private final ArrayList<Entry> entries;
    private final Tree tree;
    private final Walk walk;
    private final Taking taking;
    private int listed;

    public SafePaths(int rules) {
        this.rules = new Rules(rules);
        this.draft = new Draft();
        this.paths = new ArrayList<Parted>();
        this.targets = new ArrayList<Parted>();
        this.entries = new ArrayList<Entry>();
        this.tree = new Tree(this.rules);
        this.walk = new Walk(this.tree);
        this.taking = new Taking(this.rules, this.tree, this.walk);
        this.listed = 0;
    }

    public int put(int b) {
        return draft.append(b);
    }

    public int path() {
        ArrayList<Name> parts = draft.cut(rules);
        int answer = judgeAsPath(parts);
        if (answer == FINE) {
            answer = paths.size();
            paths.add(new Parted(answer, false, parts));
        }
        draft.clear();
        return answer;
    }

    public int part(int path, int k, int i) {
        Parted it = memberOf(paths, path);
        return it == null ? -1 : it.at(k).byteAt(i);
    }

    public int meets(int a, int b) {
        Parted one = memberOf(paths, a);
        Parted other = memberOf(paths, b);
        if (one == null || other == null) {
            return NO_SUCH;
        }
        if (one.count() != other.count()) {
            return 0;
        }
        for (int k = 0; k < one.count(); k++) {
            if (!rules.takeAsOne(one.at(k), other.at(k))) {
                return 0;
            }
        }
        return 1;
    }

    public int target() {
        int answer = judgeAsTarget();
        if (answer == FINE) {
            answer = targets.size();
            targets.add(new Parted(answer, draft.beginsWithDivider(rules), draft.cut(rules)));
        }
        draft.clear();
        return answer;
    }

    public int entry(int kind, int path, int with, long size) {
        if (kind < FOLDER || kind > DEVICE) {
            return NO_SUCH;
        }
        Parted own = memberOf(paths, path);
        Parted other = otherOf(kind, with, own);
        if (own == null || other == null) {
            return NO_SUCH;
        }
        if (kind == FOLDER && with != 0 && with != 1) {
            return NO_SUCH;
        }
        if (kind == FILE && (size < 0 || size > MOST_FILE_SIZE)) {
            return NO_SUCH;
        }
        if (entries.size() >= MOST_ENTRIES) {
            return FULL;
        }
        entries.add(new Entry(kind, own, other, with, size));
        return entries.size() - 1;
    }

    public int take(int entry) {
        if (entry < 0 || entry >= entries.size()) {
            return NO_SUCH;
        }
        Entry it = entries.get(entry);
        int refusal = taking.judge(it);
        if (refusal == IS_DEVICE) {
            listed++;
        }
        return refusal == FINE ? taking.carryOut(it) : refusal;
    }

    public int dry(int entry) {
        if (entry < 0 || entry >= entries.size()) {
            return NO_SUCH;
        }
        return taking.judge(entries.get(entry));
    }

    public int finish() {
        taking.setNotedRights();
        return tree.countShut();
    }

    public long limit(int what, long n) {
        if (n < 0) {
            return NO_SUCH;
        }
        if (what == 0) {
            return taking.changeNodeLimit(n);
        }
        if (what == 1) {
            return taking.changeSizeLimit(n);
        }
        return NO_SUCH;
    }

    public int lead(int node) {
        Node it = tree.at(node);
        if (it == null || it.gone) {
            return NO_SUCH;
        }
        if (it.target == null) {
            return it.number;
        }
        return it.dead ? NOWHERE : walk.goThrough(it.target, it.up(), 0);
    }

    public int find(int path) {
        Parted it = memberOf(paths, path);
        if (it == null) {
            return NO_SUCH;
        }
        Node found = tree.reach(it, false);
        return found == null ? NOWHERE : found.number;
    }

    public int node(int node, int what) {
        Node it = tree.at(node);
        if (it == null) {
            return NO_SUCH;
        }
        switch (what) {
            case 0:
                return it.state();
            case 1:
                return it.up().number;
            case 2:
                return tree.contentOf(it);
            case 3:
                return it.name.length();
            default:
                return NO_SUCH;
        }
    }

    public int name(int node, int i) {
        Node it = tree.at(node);
        return it == null ? -1 : it.name.byteAt(i);
    }

    public long body(int body, int what) {
        Body it = tree.bodyAt(body);
        if (it == null) {
            return NO_SUCH;
        }
        switch (what) {
            case 0:
                return it.size;
            case 1:
                return it.value;
            case 2:
                return tree.countFilesWith(it);
            default:
                return NO_SUCH;
        }
    }

    public boolean inside() {
        return tree.isUntouchedOutside() && tree.isAllElseBelowRoot();
    }

    public int told(int what) {
        switch (what) {
            case 0:
                return tree.nodeCount();
            case 1:
                return tree.bodyCount();
            case 2:
                return paths.size();
            case 3:
                return targets.size();
            case 4:
                return entries.size();
            case 5:
                return taking.made;
            case 6:
                return listed;
            case 7:
                return taking.notedCount();
            default:
                return NO_SUCH;
        }
    }

    private int judgeAsPath(ArrayList<Name> parts) {
        if (parts.isEmpty()) {
            return NO_PART;
        }
        if (draft.beginsWithDivider(rules) || draft.beginsWithDrive()) {
            return NOT_RELATIVE;
        }
        int refusal = parts.size() > MOST_PATH_PARTS ? TOO_LONG : FINE;
        for (int k = 0; k < parts.size(); k++) {
            refusal = earlierOf(refusal, parts.get(k).judge(rules));
        }
        return earlierOf(refusal, paths.size() >= MOST_PATHS ? FULL : FINE);
    }

    /** Refusals of a PATH are numbered downwards in the order in which they count. */
    private static int earlierOf(int a, int b) {
        if (a == FINE || b == FINE) {
            return Math.min(a, b);
        }
        return Math.max(a, b);
    }

    private int judgeAsTarget() {
        if (draft.length() < 1 || draft.length() > MOST_TARGET_BYTES) {
            return NO_PART;
        }
        return targets.size() >= MOST_TARGETS ? FULL : FINE;
    }

    /** What an entry has beside its own PATH; kinds without it get that PATH again, so null means a wrong number. */
    private Parted otherOf(int kind, int with, Parted own) {
        if (kind == LINK) {
            return memberOf(targets, with);
        }
        return kind == HARD ? memberOf(paths, with) : own;
    }

    private static Parted memberOf(ArrayList<Parted> list, int number) {
        return number >= 0 && number < list.size() ? list.get(number) : null;
    }

    /** The RULES, each by what it does. */
    private static final class Rules {
        private final boolean backslashDivides;
        private final boolean lettersMeet;
        private final boolean deadLinks;
        private final boolean strictNames;
        private final boolean meetingIsSame;
        private final boolean makesFolders;

        Rules(int sum) {
            backslashDivides = (sum & 1) != 0;
            lettersMeet = (sum & 2) != 0;
            deadLinks = (sum & 4) != 0;
            strictNames = (sum & 8) != 0;
            meetingIsSame = (sum & 16) != 0;
            makesFolders = (sum & 32) != 0;
        }

        boolean divides(int b) {
            return b == SLASH || backslashDivides && b == BACKSLASH;
        }

        boolean takeAsOne(Name a, Name b) {
            return a.isSameAs(b) || lettersMeet && a.isAlike(b);
        }
    }

    /** The bytes of one part of a PATH or TARGET, or of a node's name. */
    private static final class Name {
        private final int[] bytes;
        // Names are compared far more often than made, so the small letters are kept.
        private final int[] small;

        Name(int[] source, int from, int to) {
            int begin = Math.max(from, 0);
            int end = Math.min(to, source.length);
            int length = Math.max(end - begin, 0);
            bytes = new int[length];
            small = new int[length];
            for (int i = 0; i < length; i++) {
                bytes[i] = source[begin + i];
                small[i] = smallLetter(bytes[i]);
            }
        }

        private static int smallLetter(int b) {
            return b >= 'A' && b <= 'Z' ? b + ('a' - 'A') : b;
        }

        int length() {
            return bytes.length;
        }

        int byteAt(int i) {
            return i >= 0 && i < bytes.length ? bytes[i] : -1;
        }

        boolean isSameAs(Name other) {
            return isEqual(bytes, other.bytes);
        }

        boolean isAlike(Name other) {
            return isEqual(small, other.small);
        }

        private static boolean isEqual(int[] a, int[] b) {
            if (a.length != b.length) {
                return false;
            }
            for (int i = 0; i < a.length; i++) {
                if (a[i] != b[i]) {
                    return false;
                }
            }
            return true;
        }

        boolean isStay() {
            return bytes.length == 1 && bytes[0] == DOT;
        }

        boolean isUp() {
            return bytes.length == 2 && bytes[0] == DOT && bytes[1] == DOT;
        }

        /** The first refusal that this part of a PATH earns. */
        int judge(Rules rules) {
            if (isUp()) {
                return GOES_UP;
            }
            if (hasControlByte() || rules.strictNames && isOfOtherSystems()) {
                return BAD_NAME;
            }
            return bytes.length > MOST_PART_BYTES ? TOO_LONG : FINE;
        }

        private boolean hasControlByte() {
            for (int i = 0; i < bytes.length; i++) {
                if (bytes[i] < BLANK || bytes[i] == DELETE) {
                    return true;
                }
            }
            return false;
        }

        private boolean isOfOtherSystems() {
            int last = byteAt(bytes.length - 1);
            return last == DOT || last == BLANK || hasMark() || isKeptWord();
        }

        private boolean hasMark() {
            for (int i = 0; i < bytes.length; i++) {
                if (MARKS_OF_OTHER_SYSTEMS.indexOf((char) bytes[i]) >= 0) {
                    return true;
                }
            }
            return false;
        }

        private boolean isKeptWord() {
            int stem = lengthToFirstDot();
            if (stem == 3) {
                return beginsWithOneOf(KEPT_WORDS);
            }
            int digit = byteAt(3);
            return stem == 4 && digit >= '1' && digit <= '9' && beginsWithOneOf(KEPT_WORDS_WITH_DIGIT);
        }

        private int lengthToFirstDot() {
            int length = 0;
            while (length < bytes.length && bytes[length] != DOT) {
                length++;
            }
            return length;
        }

        /** The words, of three letters each, stand behind one another without a gap. */
        private boolean beginsWithOneOf(String words) {
            if (small.length < 3) {
                return false;
            }
            for (int w = 0; w + 2 < words.length(); w += 3) {
                boolean begins = small[0] == words.charAt(w) && small[1] == words.charAt(w + 1);
                if (begins && small[2] == words.charAt(w + 2)) {
                    return true;
                }
            }
            return false;
        }
    }

    /** The bytes that were put and are not yet a PATH or TARGET. */
    private static final class Draft {
        private final int[] bytes;
        private int length;

        Draft() {
            bytes = new int[MOST_DRAFT_BYTES];
            length = 0;
        }

        int append(int b) {
            if (length >= bytes.length || b < 0 || b > 255) {
                return TOO_LONG;
            }
            bytes[length] = b;
            length++;
            return length;
        }

        void clear() {
            length = 0;
        }

        int length() {
            return length;
        }

        boolean beginsWithDivider(Rules rules) {
            return length > 0 && rules.divides(bytes[0]);
        }

        boolean beginsWithDrive() {
            if (length < 2 || bytes[1] != COLON) {
                return false;
            }
            int first = bytes[0];
            return first >= 'A' && first <= 'Z' || first >= 'a' && first <= 'z';
        }

        /** The parts, without those that are passed over. */
        ArrayList<Name> cut(Rules rules) {
            ArrayList<Name> parts = new ArrayList<Name>();
            int begin = 0;
            for (int i = 0; i <= length; i++) {
                if (i == length || rules.divides(bytes[i])) {
                    addUnlessPassedOver(parts, begin, i);
                    begin = i + 1;
                }
            }
            return parts;
        }

        private void addUnlessPassedOver(ArrayList<Name> parts, int begin, int end) {
            if (begin >= end) {
                return;
            }
            Name part = new Name(bytes, begin, end);
            if (!part.isStay()) {
                parts.add(part);
            }
        }
    }

    /** A PATH or a TARGET. */
    private static final class Parted {
        private final int number;
        private final boolean fromTop;
        private final ArrayList<Name> parts;
        private final Name none;

        Parted(int number, boolean fromTop, ArrayList<Name> parts) {
            this.number = number;
            this.fromTop = fromTop;
            this.parts = parts;
            this.none = new Name(NO_BYTES, 0, 0);
        }

        int count() {
            return parts.size();
        }

        /** Part k, or a name without bytes, which no part is, if there is none such. */
        Name at(int k) {
            return k >= 0 && k < parts.size() ? parts.get(k) : none;
        }
    }

    /** An entry of the archive. */
    private static final class Entry {
        private final int kind;
        private final Parted path;
        private final Parted other;
        private final int with;
        private final long size;

        Entry(int kind, Parted path, Parted other, int with, long size) {
            this.kind = kind;
            this.path = path;
            this.other = other;
            this.with = with;
            this.size = size;
        }
    }

    /** What a file holds; hard entries let several files have one. */
    private static final class Body {
        private final int number;
        private final long size;
        private final int value;

        Body(int number, long size, int value) {
            this.number = number;
            this.size = size;
            this.value = value;
        }
    }

    /** A file if it has a body, a link if it has a target, else a folder. */
    private static final class Node {
        private final int number;
        private final Node folder;
        private final Name name;
        private final Body body;
        private final Parted target;
        private final boolean dead;
        private boolean shut;
        private boolean gone;

        Node(int number, Node folder, Name name, Body body, Parted target, boolean dead) {
            this.number = number;
            this.folder = folder;
            this.name = name;
            this.body = body;
            this.target = target;
            this.dead = dead;
            this.shut = false;
            this.gone = false;
        }

        boolean isFolder() {
            return body == null && target == null;
        }

        /** The folder that this is in; THE TOP, which alone has none above it, is in itself. */
        Node up() {
            return folder == null ? this : folder;
        }

        int state() {
            if (gone) {
                return -1;
            }
            if (body != null) {
                return 2;
            }
            if (target != null) {
                return dead ? 4 : 3;
            }
            return shut ? 1 : 0;
        }
    }

    /** A right that a folder will get when all is finished. */
    private static final class Note {
        private final Node folder;
        private final boolean shut;

        Note(Node folder, boolean shut) {
            this.folder = folder;
            this.shut = shut;
        }
    }

    /** All nodes, numbered as they were made, and all bodies. */
    private static final class Tree {
        private final Rules rules;
        private final ArrayList<Node> nodes;
        private final ArrayList<Body> bodies;
        private final Node top;
        private final Node root;
        private final Node home;
        private final Node key;

        Tree(Rules rules) {
            this.rules = rules;
            nodes = new ArrayList<Node>();
            bodies = new ArrayList<Body>();
            Body first = new Body(0, 8, 42);
            top = new Node(0, null, new Name(NO_BYTES, 0, 0), null, null, false);
            root = new Node(1, top, new Name(OUT, 0, OUT.length), null, null, false);
            home = new Node(2, top, new Name(HOME, 0, HOME.length), null, null, false);
            key = new Node(3, home, new Name(KEY, 0, KEY.length), first, null, false);
            bodies.add(first);
            nodes.add(top);
            nodes.add(root);
            nodes.add(home);
            nodes.add(key);
        }

        int nodeCount() {
            return nodes.size();
        }

        int bodyCount() {
            return bodies.size();
        }

        Node at(int number) {
            return number >= 0 && number < nodes.size() ? nodes.get(number) : null;
        }

        Body bodyAt(int number) {
            return number >= 0 && number < bodies.size() ? bodies.get(number) : null;
        }

        Node addNode(Node folder, Name name, Body body, Parted target, boolean dead) {
            Node made = new Node(nodes.size(), folder, name, body, target, dead);
            nodes.add(made);
            return made;
        }

        Body addBody(long size, int value) {
            Body made = new Body(bodies.size(), size, value);
            bodies.add(made);
            return made;
        }

        /** What a name is IN a folder, or null. */
        Node childOf(Node folder, Name name) {
            Node alike = null;
            for (int n = 0; n < nodes.size(); n++) {
                Node child = nodes.get(n);
                if (child.gone || child.up() != folder) {
                    continue;
                }
                if (child.name.isSameAs(name)) {
                    return child;
                }
                if (alike == null && rules.lettersMeet && child.name.isAlike(name)) {
                    alike = child;
                }
            }
            return alike;
        }

        /** What a PATH is from the ROOT on, or null; toTheLetter: names that only MEET do not count. */
        Node reach(Parted path, boolean toTheLetter) {
            Node at = root;
            for (int k = 0; k < path.count(); k++) {
                if (!at.isFolder()) {
                    return null;
                }
                Node next = childOf(at, path.at(k));
                if (next == null || toTheLetter && !next.name.isSameAs(path.at(k))) {
                    return null;
                }
                at = next;
            }
            return at;
        }

        boolean isOutside(Node folder) {
            for (Node at = folder; at != null; at = at.folder) {
                if (at == root) {
                    return false;
                }
            }
            return true;
        }

        /** The rest of what these nodes are never changes once they are made. */
        boolean isUntouchedOutside() {
            return top.state() == 0 && home.state() == 0 && key.state() == 2 && !root.gone;
        }

        boolean isAllElseBelowRoot() {
            for (int n = key.number + 1; n < nodes.size(); n++) {
                if (!nodes.get(n).gone && isOutside(nodes.get(n))) {
                    return false;
                }
            }
            return true;
        }

        int contentOf(Node node) {
            if (node.gone) {
                return -1;
            }
            if (node.body != null) {
                return node.body.number;
            }
            return node.target != null ? node.target.number : countIn(node);
        }

        private int countIn(Node folder) {
            int count = 0;
            for (int n = 0; n < nodes.size(); n++) {
                Node child = nodes.get(n);
                if (!child.gone && child.up() == folder) {
                    count++;
                }
            }
            return count;
        }

        int countShut() {
            int count = 0;
            for (int n = 0; n < nodes.size(); n++) {
                if (nodes.get(n).state() == 1) {
                    count++;
                }
            }
            return count;
        }

        int countFilesWith(Body body) {
            int count = 0;
            for (int n = 0; n < nodes.size(); n++) {
                Node file = nodes.get(n);
                if (!file.gone && file.body == body) {
                    count++;
                }
            }
            return count;
        }
    }

    /** Finds WHERE A LINK LEADS. */
    private static final class Walk {
        private final Tree tree;
        // The parts still to go through, the next one last.
        private final ArrayList<Name> ahead;
        private Node folder;
        // How many names below the folder this is by names alone.
        private int below;
        private int linksPassed;

        Walk(Tree tree) {
            this.tree = tree;
            this.ahead = new ArrayList<Name>();
            this.folder = tree.root;
            this.below = 0;
            this.linksPassed = 0;
        }

        /** The node, or OUTSIDE, NOWHERE, RING, for a link so many folders, yet to come, below one that is there. */
        int goThrough(Parted target, Node from, int yetToCome) {
            ahead.clear();
            below = yetToCome;
            linksPassed = 0;
            begin(target, from);
            for (int steps = 0; steps < MOST_STEPS; steps++) {
                if (tree.isOutside(folder)) {
                    return OUTSIDE;
                }
                if (ahead.isEmpty()) {
                    return below > 0 ? NOWHERE : folder.number;
                }
                Name part = ahead.remove(ahead.size() - 1);
                int end = part.isUp() ? goUp() : goTo(below > 0 ? null : tree.childOf(folder, part));
                if (end != UNDER_WAY) {
                    return end;
                }
            }
            return RING;
        }

        private void begin(Parted target, Node from) {
            folder = target.fromTop ? tree.top : from;
            for (int k = target.count() - 1; k >= 0; k--) {
                ahead.add(target.at(k));
            }
        }

        private int goUp() {
            if (below > 0) {
                below--;
            } else {
                folder = folder.up();
            }
            return UNDER_WAY;
        }

        private int goTo(Node next) {
            if (next == null) {
                below++;
                return UNDER_WAY;
            }
            if (next.isFolder()) {
                folder = next;
                return UNDER_WAY;
            }
            if (next.target == null || next.dead) {
                return ahead.isEmpty() ? next.number : NOWHERE;
            }
            if (linksPassed >= MOST_LINKS_PASSED) {
                return RING;
            }
            linksPassed++;
            begin(next.target, next.up());
            return UNDER_WAY;
        }
    }

    /** Judges an entry first, then lets it come: a refusal so changes nothing. */
    private static final class Taking {
        private final Rules rules;
        private final Tree tree;
        private final Walk walk;
        private final ArrayList<Note> notes;
        private long nodeLimit;
        private long sizeLimit;
        private int made;
        private long sizes;

        // What the last judgement found: the last folder on the way that is there, and how many lack behind it.
        private Node folder;
        private int lacking;
        // The node in the entry's place, and the same again if nothing needs to come.
        private Node there;
        private Node already;
        private Body shared;
        private boolean dead;

        Taking(Rules rules, Tree tree, Walk walk) {
            this.rules = rules;
            this.tree = tree;
            this.walk = walk;
            this.notes = new ArrayList<Note>();
            this.nodeLimit = 1000000;
            this.sizeLimit = 1L << 62;
            this.made = 0;
            this.sizes = 0;
            this.folder = tree.root;
            this.lacking = 0;
            this.there = null;
            this.already = null;
            this.shared = null;
            this.dead = false;
        }

        long changeNodeLimit(long n) {
            long was = nodeLimit;
            nodeLimit = n;
            return was;
        }

        long changeSizeLimit(long n) {
            long was = sizeLimit;
            sizeLimit = n;
            return was;
        }

        int notedCount() {
            return notes.size();
        }

        void setNotedRights() {
            for (int n = 0; n < notes.size(); n++) {
                Note note = notes.get(n);
                note.folder.shut = note.shut;
            }
            notes.clear();
        }

        /** FINE, or the first refusal. */
        int judge(Entry entry) {
            forgetLastJudgement();
            int refusal = judgeWay(entry.path);
            if (refusal == FINE) {
                refusal = judgeLast(entry.path.at(entry.path.count() - 1));
            }
            if (refusal == FINE) {
                refusal = judgeKind(entry);
            }
            if (refusal == FINE && already == null) {
                refusal = judgeLimits(entry);
            }
            return refusal;
        }

        private void forgetLastJudgement() {
            folder = tree.root;
            lacking = 0;
            there = null;
            already = null;
            shared = null;
            dead = false;
        }

        private int judgeWay(Parted path) {
            for (int k = 0; k + 1 < path.count(); k++) {
                int refusal = judgeWayPart(path.at(k));
                if (refusal != FINE) {
                    return refusal;
                }
            }
            return FINE;
        }

        private int judgeWayPart(Name part) {
            Node next = nextBy(part);
            if (next == null) {
                return judgeLack();
            }
            if (isRefusedMeeting(next, part)) {
                return MEETS_ANOTHER;
            }
            if (next.target != null) {
                return WAY_HAS_LINK;
            }
            if (next.body != null) {
                return WAY_HAS_FILE;
            }
            folder = next;
            return FINE;
        }

        /** In a folder that is yet to come there is nothing. */
        private Node nextBy(Name part) {
            return lacking > 0 ? null : tree.childOf(folder, part);
        }

        private int judgeLack() {
            if (!rules.makesFolders) {
                return FOLDER_LACKS;
            }
            if (isShut()) {
                return FOLDER_IS_SHUT;
            }
            lacking++;
            return FINE;
        }

        /** Folders that come on the way come open. */
        private boolean isShut() {
            return lacking == 0 && folder.shut;
        }

        private boolean isRefusedMeeting(Node node, Name part) {
            return !rules.meetingIsSame && !node.name.isSameAs(part);
        }

        private int judgeLast(Name part) {
            there = nextBy(part);
            return there != null && isRefusedMeeting(there, part) ? MEETS_ANOTHER : FINE;
        }

        private int judgeKind(Entry entry) {
            if (entry.kind == DEVICE) {
                return IS_DEVICE;
            }
            if (entry.kind == FOLDER && there != null && there.isFolder()) {
                already = there;
                return FINE;
            }
            if (isPlaceTaken(entry.kind)) {
                return PLACE_IS_TAKEN;
            }
            if (isShut()) {
                return FOLDER_IS_SHUT;
            }
            if (entry.kind == LINK) {
                dead = walk.goThrough(entry.other, folder, lacking) == OUTSIDE;
                return dead && !rules.deadLinks ? LEADS_OUTSIDE : FINE;
            }
            return entry.kind == HARD ? judgeSharing(entry.other) : FINE;
        }

        /** A folder takes no other node's place, and no other node a folder's. */
        private boolean isPlaceTaken(int kind) {
            return there != null && (kind == FOLDER || there.isFolder());
        }

        private int judgeSharing(Parted other) {
            Node file = tree.reach(other, !rules.meetingIsSame);
            if (file == null || file.body == null) {
                return NO_FILE_TO_SHARE;
            }
            shared = file.body;
            if (file == there) {
                already = file;
            }
            return FINE;
        }

        private int judgeLimits(Entry entry) {
            int coming = lacking + 1;
            if (made + coming > nodeLimit) {
                return OVER_LIMIT;
            }
            if (entry.kind == FILE && sizes + entry.size > sizeLimit) {
                return OVER_LIMIT;
            }
            return tree.nodeCount() + coming > MOST_NODES ? FULL : FINE;
        }

        /** Does what the judgement of this entry, just made, found fine: the node. */
        int carryOut(Entry entry) {
            Node it = already == null ? bring(entry) : already;
            // One call notes one right at most, so this bound only matters to objects used for longer than promised.
            if (entry.kind == FOLDER && notes.size() < MOST_CALLS) {
                notes.add(new Note(it, entry.with == 1));
            }
            return it.number;
        }

        private Node bring(Entry entry) {
            int last = entry.path.count() - 1;
            Node parent = folder;
            for (int k = last - lacking; k < last; k++) {
                parent = tree.addNode(parent, entry.path.at(k), null, null, false);
            }
            if (there != null) {
                there.gone = true;
            }
            made += lacking + 1;
            Parted target = entry.kind == LINK ? entry.other : null;
            return tree.addNode(parent, entry.path.at(last), bodyFor(entry), target, dead);
        }

        private Body bodyFor(Entry entry) {
            if (entry.kind != FILE) {
                return shared;
            }
            sizes += entry.size;
            return tree.addBody(entry.size, entry.with);
        }
    }
}
