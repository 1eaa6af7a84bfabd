/** Counts and prints the answers that are not the ones that are due. */
final class Due {
    private int asked = 0;
    private int wrong = 0;

    void is(String call, long got, long want) {
        asked++;
        if (got != want) {
            wrong++;
            System.out.println(call + " answered " + got + ", due is " + want);
        }
    }

    void holds(String what, boolean got) {
        is(what, got ? 1 : 0, 1);
    }

    void end() {
        System.out.println(asked + " answers, " + wrong + " not as due");
        if (wrong != 0 || asked == 0) {
            System.exit(1);
        }
    }

    /** The draft gets the text's characters as bytes. */
    static void draft(SafePaths x, String text) {
        for (int i = 0; i < text.length(); i++) {
            x.put(text.charAt(i));
        }
    }

    static int path(SafePaths x, String text) {
        draft(x, text);
        return x.path();
    }

    static int target(SafePaths x, String text) {
        draft(x, text);
        return x.target();
    }

    static int folder(SafePaths x, String path, int right) {
        return x.entry(0, path(x, path), right, 0);
    }

    static int file(SafePaths x, String path, int value, long size) {
        return x.entry(1, path(x, path), value, size);
    }

    static int link(SafePaths x, String path, String target) {
        return x.entry(2, path(x, path), target(x, target), 0);
    }

    static int hard(SafePaths x, String path, String other) {
        return x.entry(3, path(x, path), path(x, other), 0);
    }

    static int device(SafePaths x, String path) {
        return x.entry(4, path(x, path), 0, 0);
    }

    static String nameOf(SafePaths x, int node) {
        StringBuilder name = new StringBuilder();
        for (int i = 0; i < x.node(node, 3); i++) {
            name.append((char) x.name(node, i));
        }
        return name.toString();
    }
}
