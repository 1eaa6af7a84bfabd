import java.util.Random;

/** Long runs of calls, the same ones each time, on an object and on the model: all answers must be the same. */
public final class ModelTest {
    private static final int RUNS = 3000;
    private static final int CALLS = 512;
    private static final String[] NAMES = {"a", "b", "c", "A", "B", "a", "b", "a", "b"};
    private static final String[] ODD = {"con", "Lpt3.x", "x.", "...", "c:", "q?", "0123456789abcdef",
        "0123456789abcdefg", "\u0001", "\u00e4", "\u00c4", "a\\b", "\\", "..", ".", "", " ", "com0", "@", "`"};

    private final Due due;
    private final Random random;
    private final String told;
    private final SafePaths x;
    private final Model model;
    private int calls = 0;

    private ModelTest(Due due, int run) {
        this.due = due;
        this.random = new Random(run);
        int rules = random.nextInt(8) == 0 ? random.nextInt() : random.nextInt(64);
        // Half of the runs get the rules that let most entries come.
        rules = random.nextBoolean() ? rules | 36 : rules;
        this.told = "run " + run + ", rules " + rules + ": ";
        this.x = new SafePaths(rules);
        this.model = new Model(rules);
    }

    public static void main(String[] args) {
        Due due = new Due();
        for (int run = 0; run < RUNS; run++) {
            new ModelTest(due, run).run();
        }
        due.end();
    }

    private void run() {
        while (calls < CALLS) {
            step();
        }
        compareAll();
    }

    private void same(String call, long got, long want) {
        calls++;
        due.is(told + "call " + calls + " " + call, got, want);
    }

    private void step() {
        switch (random.nextInt(12)) {
            case 0: newPath(); break;
            case 1: newTarget(); break;
            case 2: case 3: newEntry(); break;
            case 4: case 5: case 6: case 7: take(); break;
            case 8: look(); break;
            case 9: case 10: lead(); break;
            default: rare();
        }
    }

    private void draft(String text) {
        for (int i = 0; i < text.length(); i++) {
            same("put", x.put(text.charAt(i)), model.put(text.charAt(i)));
        }
    }

    private String names(int most, boolean target) {
        StringBuilder text = new StringBuilder(random.nextInt(12) == 0 ? "/" : "");
        int count = random.nextInt(most) + (random.nextInt(20) == 0 ? 7 : 1);
        for (int k = 0; k < count; k++) {
            text.append(k == 0 ? "" : random.nextInt(10) == 0 ? "\\" : "/");
            if (target && random.nextInt(3) == 0) {
                text.append("..");
            } else if (random.nextInt(15) == 0) {
                text.append(ODD[random.nextInt(ODD.length)]);
            } else {
                text.append(NAMES[random.nextInt(NAMES.length)]);
            }
        }
        return text.toString();
    }

    private void newPath() {
        draft(names(3, false));
        same("path", x.path(), model.path());
    }

    private void newTarget() {
        draft(names(5, true));
        same("target", x.target(), model.target());
    }

    private int upTo(int count) {
        return random.nextInt(25) == 0 ? random.nextInt(count + 3) - 2 : random.nextInt(Math.max(count, 1));
    }

    private void newEntry() {
        int kind = new int[] {0, 0, 1, 1, 2, 2, 2, 3, 3, 4, 5}[random.nextInt(11)];
        int path = upTo(x.told(2));
        int with = kind == 0 ? random.nextInt(5) / 3 : kind == 2 ? upTo(x.told(3)) : upTo(x.told(2));
        long size = random.nextInt(20) - 1;
        String call = "entry(" + kind + ", " + path + ", " + with + ", " + size + ")";
        same(call, x.entry(kind, path, with, size), model.entry(kind, path, with, size));
    }

    private void take() {
        int entry = upTo(x.told(4));
        same("dry(" + entry + ")", x.dry(entry), model.dry(entry));
        same("take(" + entry + ")", x.take(entry), model.take(entry));
        if (random.nextInt(5) == 0) {
            same("finish()", x.finish(), model.finish());
        }
    }

    private void look() {
        int path = upTo(x.told(2));
        int other = upTo(x.told(2));
        same("find(" + path + ")", x.find(path), model.find(path));
        same("meets(" + path + ", " + other + ")", x.meets(path, other), model.meets(path, other));
        int k = random.nextInt(4) - 1;
        int i = random.nextInt(5) - 1;
        same("part(" + path + ", " + k + ", " + i + ")", x.part(path, k, i), model.part(path, k, i));
        same("inside()", x.inside() ? 1 : 0, 1);
    }

    private void lead() {
        for (int n = 0; n < 4; n++) {
            int node = upTo(x.told(0));
            same("lead(" + node + ")", x.lead(node), model.lead(node));
        }
    }

    private void rare() {
        int what = random.nextInt(4) - 1;
        long n = random.nextInt(10) == 0 ? -1 : random.nextInt(3) == 0 ? random.nextInt(60) : Long.MAX_VALUE;
        same("limit(" + what + ", " + n + ")", x.limit(what, n), model.limit(what, n));
        int b = random.nextInt();
        same("put(" + b + ")", x.put(b), model.put(b));
    }

    private void compareAll() {
        for (int what = -1; what < 9; what++) {
            same("told(" + what + ")", x.told(what), model.told(what));
        }
        for (int node = -1; node <= x.told(0); node++) {
            for (int what = -1; what < 5; what++) {
                same("node(" + node + ", " + what + ")", x.node(node, what), model.node(node, what));
            }
            for (int i = -1; i <= x.node(node, 3); i++) {
                same("name(" + node + ", " + i + ")", x.name(node, i), model.name(node, i));
            }
            same("lead(" + node + ")", x.lead(node), model.lead(node));
        }
        for (int body = -1; body <= x.told(1); body++) {
            for (int what = -1; what < 4; what++) {
                same("body(" + body + ", " + what + ")", x.body(body, what), model.body(body, what));
            }
        }
        same("inside()", x.inside() ? 1 : 0, 1);
    }
}
