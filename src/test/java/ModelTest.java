import java.util.Random;

/** Long runs of calls, drawn by fixed seeds, answered by CodeRooms and by PlainRooms alike. */
public final class ModelTest {
    private static final int CALLS = 512;
    private static final String[] WORDS = {"read", "re", "page", "pages", "key", "a", "b", "list", "x"};

    private final Checks checks;
    private final Random random;
    private final String run;
    private final CodeRooms rooms = new CodeRooms();
    private final PlainRooms plain = new PlainRooms();
    private final int wanted;
    private final int wildness;
    private int calls;

    private ModelTest(Checks checks, long seed) {
        this.checks = checks;
        random = new Random(seed);
        run = "run " + seed;
        int[] sizes = {3, 6, 9, 10, 14, 25, 40};
        wanted = sizes[random.nextInt(sizes.length)];
        wildness = random.nextInt(3) == 0 ? 4 : 25;
    }


    private void ask(String what, Checks.Call call, Checks.Call model) {
        calls++;
        checks.same(run + ", call " + calls + ", " + what, Checks.answerOf(call), Checks.answerOf(model));
    }

    private boolean wild() {
        return random.nextInt(wildness) == 0;
    }

    private int routineNumber() {
        int n = rooms.count(0);
        int[] odd = {-1, n, n + 1, 40, Integer.MIN_VALUE, Integer.MAX_VALUE};
        return n == 0 || wild() && random.nextInt(4) == 0 ? odd[random.nextInt(odd.length)] : random.nextInt(n);
    }

    private int roomNumber() {
        return random.nextInt(wild() ? 9 : 4) - (wild() ? 2 : 0);
    }

    private String drawName() {
        if (wild()) {
            String[] odd = {"", "_", "__", "A", "a1", "a b", "abcdefghijklmnopqrstu", "\u00e9", "{", "`", "abcdefghijklmnopqrst"};
            return odd[random.nextInt(odd.length)];
        }
        StringBuilder text = new StringBuilder();
        int words = 1 + random.nextInt(4);
        for (int k = 0; k < words; k++) {
            text.append(k == 0 ? "" : wild() ? "__" : "_").append(WORDS[random.nextInt(WORDS.length)]);
        }
        text.append(wild() ? "_" : "");
        return text.length() > 20 ? text.substring(0, 20) : text.toString();
    }

    private void feed(String text) {
        int[] n = Names.numbersOf(text);
        ask("feed", () -> rooms.feed(n[0], n[1], n[2], n[3], n[4]), () -> plain.feed(n[0], n[1], n[2], n[3], n[4]));
    }

    private void addRoutine() {
        String text = drawName();
        feed(text.length() > 20 ? text.substring(0, 20) : text);
        if (text.length() > 20 || wild()) {
            feed(text.length() > 20 ? text.substring(20) : "ab");
        }
        int length = wild() ? random.nextInt(45) - 2 : text.length();
        ask("routine(" + length + ")", () -> rooms.routine(length), () -> plain.routine(length));
        ask("count(3)", () -> rooms.count(3), () -> plain.count(3));
    }

    private void tie() {
        int a = routineNumber();
        int b = routineNumber();
        int kind = random.nextInt(3) + (wild() ? random.nextInt(3) - 1 : 0);
        int[] amounts = {1, 2, 1000, 1001, 0, -1};
        int amount = wild() ? amounts[random.nextInt(amounts.length)] : 1 + random.nextInt(30);
        ask("tie(" + a + ", " + b + ", " + kind + ", " + amount + ")",
            () -> rooms.tie(a, b, kind, amount), () -> plain.tie(a, b, kind, amount));
    }

    private void set() {
        int what = random.nextInt(6) + (wild() ? random.nextInt(5) - 2 : 0);
        int[] tops = {9, 9, 9, 100, 40, 6};
        int top = what < 0 || what > 5 ? 5 : tops[what];
        if (what == 4 && random.nextInt(2) == 0) {
            top = 6;
        }
        if (what == 5 && random.nextInt(2) == 0) {
            top = 3;
        }
        int v = wild() ? random.nextInt(2) == 0 ? top + 1 : -1 : random.nextInt(top + 1);
        ask("set(" + what + ", " + v + ")", () -> rooms.set(what, v), () -> plain.set(what, v));
    }

    private void must() {
        int a = routineNumber();
        int b = routineNumber();
        int must = wild() ? random.nextInt(6) - 1 : random.nextInt(3);
        ask("must(" + a + ", " + b + ", " + must + ")", () -> rooms.must(a, b, must), () -> plain.must(a, b, must));
    }

    private void change() {
        int n = rooms.count(0);
        int low = 0;
        int high = 0;
        for (int k = random.nextInt(4); k > 0 && n > 0; k--) {
            int i = random.nextInt(n);
            low |= i < 20 ? 1 << i : 0;
            high |= i >= 20 ? 1 << i - 20 : 0;
        }
        if (wild()) {
            low |= 1 << random.nextInt(32);
            high |= random.nextInt(2) << random.nextInt(32);
        }
        int first = low;
        int second = high;
        ask("change(" + low + ", " + high + ")", () -> rooms.change(first, second), () -> plain.change(first, second));
    }

    private void act() {
        int i = routineNumber();
        int j = routineNumber();
        int room = roomNumber();
        int k = random.nextInt(6) - (wild() ? 3 : 0);
        switch (random.nextInt(29)) {
            case 0: case 1: case 2: case 3: case 4: case 5:
                tie();
                break;
            case 6: case 7:
                set();
                break;
            case 8: case 9:
                must();
                break;
            case 10:
                ask("fix(" + i + ", " + room + ")", () -> rooms.fix(i, room), () -> plain.fix(i, room));
                break;
            case 11: case 12: case 13:
                ask("put(" + i + ", " + room + ")", () -> rooms.put(i, room), () -> plain.put(i, room));
                break;
            case 14:
                ask("better()", () -> rooms.better(), () -> plain.better());
                break;
            case 15:
                ask("best()", () -> rooms.best(), () -> plain.best());
                break;
            case 16:
                ask("ties(" + i + ", " + j + ")", () -> rooms.ties(i, j), () -> plain.ties(i, j));
                break;
            case 17:
                ask("border(" + i + ")", () -> rooms.border(i), () -> plain.border(i));
                break;
            case 18:
                ask("name(" + room + ")", () -> rooms.name(room), () -> plain.name(room));
                break;
            case 19:
                ask("octet(" + k + ")", () -> rooms.octet(k), () -> plain.octet(k));
                break;
            case 20:
                ask("face(" + room + ", " + k + ")", () -> rooms.face(room, k), () -> plain.face(room, k));
                break;
            case 21:
                ask("ring(" + room + ")", () -> rooms.ring(room), () -> plain.ring(room));
                break;
            case 22: case 23:
                change();
                break;
            case 24:
                ask("alone()", () -> rooms.alone(), () -> plain.alone());
                break;
            case 25:
                ask("keep()", () -> rooms.keep(), () -> plain.keep());
                break;
            case 26:
                ask("moves()", () -> rooms.moves(), () -> plain.moves());
                break;
            case 27:
                ask("hub(" + i + ")", () -> rooms.hub(i) ? 1 : 0, () -> plain.hub(i));
                break;
            default:
                addRoutine();
        }
    }

    /** Looks at the whole state without asking more of the object than a run may. */
    private void look() {
        for (int what = -1; what <= 6; what++) {
            int one = what;
            ask("count(" + what + ")", () -> rooms.count(one), () -> plain.count(one));
        }
        ask("cost()", () -> rooms.cost(), () -> plain.cost());
        ask("alone()", () -> rooms.alone(), () -> plain.alone());
        ask("moves()", () -> rooms.moves(), () -> plain.moves());
        for (int i = 0; i < rooms.count(0); i++) {
            int one = i;
            ask("room(" + i + ")", () -> rooms.room(one), () -> plain.room(one));
        }
    }

    private void play() {
        while (rooms.count(0) < wanted && calls < CALLS / 2) {
            addRoutine();
        }
        while (calls < CALLS - 60) {
            act();
            if (random.nextInt(40) == 0) {
                look();
            }
        }
        look();
    }

    public static void main(String[] args) {
        Checks checks = new Checks("ModelTest");
        int runs = args.length > 0 ? Integer.parseInt(args[0]) : 150;
        for (int seed = 1; seed <= runs; seed++) {
            new ModelTest(checks, seed).play();
        }
        checks.end();
    }
}
