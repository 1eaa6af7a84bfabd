/** An object and how many calls it had: a test that asks more than the document promises would tell nothing. */
final class Box {
    static final int MOST_CALLS = 512;

    private final SafePaths x;
    private int calls = 0;

    Box(int rules) {
        x = new SafePaths(rules);
    }

    private SafePaths call() {
        calls++;
        if (calls > MOST_CALLS) {
            throw new IllegalStateException("this test asks more than " + MOST_CALLS + " calls of one object");
        }
        return x;
    }

    int callsLeft() {
        return MOST_CALLS - calls;
    }

    int put(int b) {
        return call().put(b);
    }

    int path() {
        return call().path();
    }

    int part(int path, int k, int i) {
        return call().part(path, k, i);
    }

    int meets(int a, int b) {
        return call().meets(a, b);
    }

    int target() {
        return call().target();
    }

    int entry(int kind, int path, int with, long size) {
        return call().entry(kind, path, with, size);
    }

    int take(int entry) {
        return call().take(entry);
    }

    int dry(int entry) {
        return call().dry(entry);
    }

    int finish() {
        return call().finish();
    }

    long limit(int what, long n) {
        return call().limit(what, n);
    }

    int lead(int node) {
        return call().lead(node);
    }

    int find(int path) {
        return call().find(path);
    }

    int node(int node, int what) {
        return call().node(node, what);
    }

    int name(int node, int i) {
        return call().name(node, i);
    }

    long body(int body, int what) {
        return call().body(body, what);
    }

    boolean inside() {
        return call().inside();
    }

    int told(int what) {
        return call().told(what);
    }

    /** The draft gets the text's characters as bytes. */
    Box draft(String text) {
        for (int i = 0; i < text.length(); i++) {
            put(text.charAt(i));
        }
        return this;
    }

    int path(String text) {
        return draft(text).path();
    }

    int target(String text) {
        return draft(text).target();
    }

    int folder(String path, int right) {
        return entry(0, path(path), right, 0);
    }

    int file(String path, long size) {
        return entry(1, path(path), 0, size);
    }

    int link(String path, String target) {
        return entry(2, path(path), target(target), 0);
    }

    int hard(String path, String other) {
        return entry(3, path(path), path(other), 0);
    }

    int device(String path) {
        return entry(4, path(path), 0, 0);
    }

    int takeFolder(String path, int right) {
        return take(folder(path, right));
    }

    int takeFile(String path, long size) {
        return take(file(path, size));
    }

    int takeLink(String path, String target) {
        return take(link(path, target));
    }

    int takeHard(String path, String other) {
        return take(hard(path, other));
    }

    int takeDevice(String path) {
        return take(device(path));
    }

    int findPath(String path) {
        return find(path(path));
    }

    /** Takes a file, each time in place of the last one, till there are so many NODES. */
    void fillNodes(int file, int nodes) {
        for (int n = told(0); n < nodes; n++) {
            take(file);
        }
    }

    String nameOf(int node) {
        StringBuilder name = new StringBuilder();
        for (int i = 0, length = node(node, 3); i < length; i++) {
            name.append((char) name(node, i));
        }
        return name.toString();
    }
}
