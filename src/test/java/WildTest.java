import java.util.Random;

/** Any arguments in any state, far beyond 512 calls too: only what the document names is thrown, by its very class. */
public final class WildTest {
    private static final int[] EDGES = {
        Integer.MIN_VALUE, -1_000, -2, -1, 0, 1, 2, 3, 5, 6, 7, 9, 10, 19, 20, 21, 39, 40, 41, 60, 100, 101,
        999, 1_000, 1_001, 1 << 19, 1 << 20, 0xFFFFF, 0x61626364, 0x7a5f7a5f, Integer.MAX_VALUE,
    };

    private final Random random;
    private final CodeRooms rooms = new CodeRooms();

    private WildTest(long seed) {
        random = new Random(seed);
    }

    private int any() {
        if (random.nextInt(3) == 0) {
            return EDGES[random.nextInt(EDGES.length)];
        }
        return random.nextInt(8) == 0 ? random.nextInt() : random.nextInt(40);
    }

    private int letters() {
        int number = 0;
        for (int k = 0; k < 4; k++) {
            number = number << 8 | (random.nextInt(40) == 0 ? random.nextInt(256) : "abcz_".charAt(random.nextInt(5)));
        }
        return number;
    }

    private String call() {
        int a = any();
        int b = any();
        int c = any();
        int d = any();
        switch (random.nextInt(25)) {
            case 0: return "" + rooms.feed(letters(), letters(), letters(), letters(), letters());
            case 1: return "" + rooms.routine(a);
            case 2: return "" + rooms.ties(a, b);
            case 3: return "" + rooms.set(a, b);
            case 4: return "" + rooms.must(a, b, c);
            case 5: return "" + rooms.fix(a, b);
            case 6: return "" + rooms.hub(a);
            case 7: return "" + rooms.room(a);
            case 8: return "" + rooms.put(a, b);
            case 9: return "" + rooms.cost();
            case 10: return "" + rooms.better();
            case 11: return "" + rooms.best();
            case 12: return "" + rooms.border(a);
            case 13: return "" + rooms.name(a);
            case 14: return "" + rooms.octet(a);
            case 15: return "" + rooms.face(a, b);
            case 16: return "" + rooms.ring(a);
            case 17: return "" + rooms.change(a, b);
            case 18: return "" + rooms.alone();
            case 19: return "" + rooms.keep();
            case 20: return "" + rooms.moves();
            case 21: return "" + rooms.count(a);
            default: return "" + rooms.tie(a, b, random.nextInt(3), d);
        }
    }

    private static boolean isNamed(String answer) {
        return !answer.startsWith("throws.")
            || answer.equals("throws.IndexOutOfBoundsException")
            || answer.equals("throws.IllegalArgumentException")
            || answer.equals("throws.IllegalStateException");
    }

    public static void main(String[] args) {
        Checks checks = new Checks("WildTest");
        for (int seed = 1; seed <= 40; seed++) {
            WildTest test = new WildTest(seed);
            for (int k = 0; k < 6_000; k++) {
                String answer = Checks.answerOf(() -> test.call());
                checks.same("run " + seed + ", call " + k + " answered " + answer + ", named", isNamed(answer), true);
            }
        }
        mostThatIsTold(checks);
        checks.end();
    }

    /** More than 512 calls can tell: the number stays at its most. */
    private static void mostThatIsTold(Checks checks) {
        CodeRooms rooms = Names.with(2);
        int last = 0;
        for (int k = 0; k < 1_100; k++) {
            last = rooms.tie(0, 1, 1, 1_000);
        }
        checks.same("the most that is told", last, 999_999);
    }
}
