import java.util.Random;

/** Calls with any arguments, also far more of them than an object is promised for: none may throw or leave the ROOT. */
public final class WildTest {
    private static final int OBJECTS = 300;
    private static final int CALLS = 4000;
    private static final int[] EDGES = {Integer.MIN_VALUE, -64, -7, -2, -1, 0, 1, 2, 3, 4, 5, 6, 7, 8, 39, 40, 41, 46, 47,
        59, 60, 61, 92, 99, 100, 101, 159, 160, 161, 199, 200, 201, 255, 256, 511, 512, 513, Integer.MAX_VALUE};

    private final Random random;
    private final SafePaths x;

    private WildTest(int seed) {
        random = new Random(seed);
        x = new SafePaths(wild());
    }

    public static void main(String[] args) {
        Due due = new Due();
        for (int n = 0; n < OBJECTS; n++) {
            WildTest test = new WildTest(n);
            for (int call = 0; call < CALLS; call++) {
                test.call();
            }
            due.holds("inside() of object " + n, test.x.inside());
            due.holds("NODES of object " + n, test.x.told(0) <= 200);
            due.holds("PATHS of object " + n, test.x.told(2) <= 60);
            due.holds("TARGETS of object " + n, test.x.told(3) <= 40);
            due.holds("entries of object " + n, test.x.told(4) <= 100);
        }
        due.end();
    }

    private int wild() {
        return random.nextInt(10) == 0 ? random.nextInt() : EDGES[random.nextInt(EDGES.length)];
    }

    private long wildLong() {
        return random.nextInt(4) == 0 ? random.nextLong() : (long) wild() << random.nextInt(34);
    }

    private int few() {
        return random.nextInt(3) == 0 ? wild() : random.nextInt(12);
    }

    private void call() {
        switch (random.nextInt(24)) {
            case 0: x.path(); break;
            case 1: x.target(); break;
            case 2: x.part(few(), few(), few()); break;
            case 3: x.meets(few(), few()); break;
            case 4: case 5: case 6: x.entry(few() % 5, few(), few(), wildLong()); break;
            case 7: case 8: case 9: case 10: x.take(few()); break;
            case 11: x.dry(few()); break;
            case 12: if (random.nextInt(30) == 0) x.finish(); break;
            case 13: if (random.nextInt(30) == 0) x.limit(few(), wildLong()); break;
            case 14: x.lead(few()); break;
            case 15: x.find(few()); break;
            case 16: x.node(few(), few()); break;
            case 17: x.name(few(), few()); break;
            case 18: x.body(few(), few()); break;
            case 19: x.told(few()); break;
            case 20: x.put(wild()); break;
            default: x.put("ab/.\\".charAt(random.nextInt(5)));
        }
    }
}
