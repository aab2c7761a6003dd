import java.util.ArrayList;
import java.util.List;
import java.util.Set;
import java.util.TreeSet;

/** The document read once more, as plainly and as slowly as it can be: every COST is counted anew. */
final class PlainRooms {
    private final List<Integer> tape = new ArrayList<>();
    private String page = "";
    private final List<String> names = new ArrayList<>();
    private final int[][][] numbers = new int[3][40][40];
    private final int[] weights = {1, 1, 1};
    private int even = 1;
    private int limit = 40;
    private int r = 2;
    private final int[][] musts = new int[40][40];
    private final int[] fixes = new int[40];
    private int[] rooms = new int[40];
    private final List<Set<Integer>> changes = new ArrayList<>();
    private int[] kept;

    PlainRooms() {
        java.util.Arrays.fill(fixes, -1);
    }

    private int n() {
        return names.size();
    }

    private void routineThere(int i) {
        if (i < 0 || i >= n()) {
            throw new IndexOutOfBoundsException();
        }
    }

    private static void require(boolean right) {
        if (!right) {
            throw new IllegalArgumentException();
        }
    }

    int feed(int a, int b, int c, int d, int e) {
        if (tape.size() + 20 > 40) {
            return -1;
        }
        for (int number : new int[] {a, b, c, d, e}) {
            for (int shift = 24; shift >= 0; shift -= 8) {
                tape.add(number >> shift & 255);
            }
        }
        return tape.size();
    }

    int routine(int n) {
        require(n >= 0 && n <= tape.size());
        if (n() == 40) {
            throw new IllegalStateException();
        }
        StringBuilder text = new StringBuilder();
        for (int octet : tape.subList(0, n)) {
            text.append((char) octet);
        }
        tape.clear();
        String name = text.toString();
        if (!name.matches("[a-z_]{1,20}")) {
            return -1;
        }
        if (names.contains(name)) {
            return -2;
        }
        names.add(name);
        return n() - 1;
    }

    int tie(int a, int b, int kind, int number) {
        routineThere(a);
        routineThere(b);
        require(a != b && kind >= 0 && kind <= 2 && number >= 1 && number <= 1000);
        int from = kind == 0 ? a : Math.min(a, b);
        int to = kind == 0 ? b : Math.max(a, b);
        numbers[kind][from][to] += number;
        forget();
        return numbers[kind][from][to];
    }

    private int tieOf(int a, int b) {
        int sum = 0;
        for (int kind = 0; kind < 3; kind++) {
            sum += weights[kind] * (numbers[kind][a][b] + numbers[kind][b][a]);
        }
        return sum;
    }

    int ties(int a, int b) {
        routineThere(a);
        routineThere(b);
        require(a != b);
        return tieOf(a, b);
    }

    int set(int what, int v) {
        require(what >= 0 && what <= 5);
        int was;
        if (what <= 2) {
            require(v >= 0 && v <= 9);
            was = weights[what];
            weights[what] = v;
        } else if (what == 3) {
            require(v >= 0 && v <= 100);
            was = even;
            even = v;
        } else if (what == 4) {
            require(v >= 0 && v <= 40);
            was = limit;
            limit = v;
        } else {
            require(v >= 1 && v <= 6);
            was = r;
            r = v;
        }
        forget();
        return was;
    }

    /** Hubs, and those of rooms that are no more, are in room 0 when they are in one again. */
    private void forget() {
        for (int i = 0; i < n(); i++) {
            if (isHub(i) || rooms[i] >= r) {
                rooms[i] = 0;
            }
        }
    }

    int must(int a, int b, int must) {
        routineThere(a);
        routineThere(b);
        require(a != b && must >= 0 && must <= 2);
        int was = musts[a][b];
        musts[a][b] = must;
        musts[b][a] = must;
        return was;
    }

    int fix(int a, int room) {
        routineThere(a);
        require(room >= -1 && room <= 5);
        int was = fixes[a];
        fixes[a] = room;
        return was;
    }

    private boolean isHub(int i) {
        int others = 0;
        for (int j = 0; j < n(); j++) {
            if (j != i && tieOf(i, j) > 0) {
                others++;
            }
        }
        return others > limit;
    }

    int hub(int i) {
        routineThere(i);
        return isHub(i) ? 1 : 0;
    }

    private List<Integer> housed() {
        List<Integer> found = new ArrayList<>();
        for (int i = 0; i < n(); i++) {
            if (!isHub(i)) {
                found.add(i);
            }
        }
        return found;
    }

    private List<Integer> in(int room) {
        List<Integer> found = new ArrayList<>();
        for (int i : housed()) {
            if (rooms[i] == room) {
                found.add(i);
            }
        }
        return found;
    }

    int room(int i) {
        routineThere(i);
        return isHub(i) ? -1 : rooms[i];
    }

    int put(int i, int room) {
        routineThere(i);
        require(room >= 0 && room < r);
        if (isHub(i)) {
            return -1;
        }
        int was = rooms[i];
        rooms[i] = room;
        return was;
    }

    private int broken(List<Integer> housed, int[] division) {
        int count = 0;
        for (int i : housed) {
            if (fixes[i] != -1 && fixes[i] != division[i]) {
                count++;
            }
            for (int j : housed) {
                boolean together = division[i] == division[j];
                if (i < j && (musts[i][j] == 1 && !together || musts[i][j] == 2 && together)) {
                    count++;
                }
            }
        }
        return count;
    }

    private long costOf(List<Integer> housed, int[] division) {
        long sum = 1_000_000L * broken(housed, division);
        int[] sizes = new int[6];
        for (int i : housed) {
            sizes[division[i]]++;
            for (int j : housed) {
                if (i < j && division[i] != division[j]) {
                    sum += tieOf(i, j);
                }
            }
        }
        for (int size : sizes) {
            sum += (long) even * size * size;
        }
        return sum;
    }

    long cost() {
        return costOf(housed(), rooms);
    }

    int better() {
        List<Integer> housed = housed();
        for (int step = 0; step < 100; step++) {
            long least = costOf(housed, rooms);
            int[] chosen = null;
            for (int i : housed) {
                for (int to = 0; to < r; to++) {
                    int[] tried = rooms.clone();
                    tried[i] = to;
                    long cost = costOf(housed, tried);
                    if (cost < least) {
                        least = cost;
                        chosen = tried;
                    }
                }
            }
            for (int i : housed) {
                for (int j : housed) {
                    if (i < j) {
                        int[] tried = rooms.clone();
                        tried[i] = rooms[j];
                        tried[j] = rooms[i];
                        long cost = costOf(housed, tried);
                        if (cost < least) {
                            least = cost;
                            chosen = tried;
                        }
                    }
                }
            }
            if (chosen == null) {
                return step;
            }
            rooms = chosen;
        }
        return 100;
    }

    long best() {
        List<Integer> housed = housed();
        if (housed.size() > 9 || r > 3) {
            return -1;
        }
        int all = 1;
        for (int k = 0; k < housed.size(); k++) {
            all *= r;
        }
        long least = Long.MAX_VALUE;
        int[] chosen = rooms;
        for (int code = 0; code < all; code++) {
            int[] tried = rooms.clone();
            int rest = code;
            for (int k = housed.size() - 1; k >= 0; k--) {
                tried[housed.get(k)] = rest % r;
                rest /= r;
            }
            long cost = costOf(housed, tried);
            if (cost < least) {
                least = cost;
                chosen = tried;
            }
        }
        rooms = chosen;
        return least;
    }

    long border(int i) {
        routineThere(i);
        if (isHub(i) || r == 1) {
            return 1_000_000_000L;
        }
        List<Integer> housed = housed();
        long least = Long.MAX_VALUE;
        for (int to = 0; to < r; to++) {
            if (to != rooms[i]) {
                int[] tried = rooms.clone();
                tried[i] = to;
                least = Math.min(least, costOf(housed, tried) - costOf(housed, rooms));
            }
        }
        return least;
    }

    private Set<String> wordsOf(int i) {
        Set<String> words = new TreeSet<>(List.of(names.get(i).split("_")));
        words.remove("");
        return words;
    }

    int name(int room) {
        require(room >= 0 && room < r);
        List<Integer> inside = in(room);
        List<Integer> others = housed();
        others.removeAll(inside);
        Set<String> words = new TreeSet<>();
        for (int i : inside) {
            words.addAll(wordsOf(i));
        }
        page = "";
        int greatest = 0;
        for (String word : words) {
            int score = having(word, inside) * others.size() - having(word, others) * inside.size();
            if (page.isEmpty() || score > greatest) {
                page = word;
                greatest = score;
            }
        }
        return page.length();
    }

    private int having(String word, List<Integer> routines) {
        int count = 0;
        for (int i : routines) {
            if (wordsOf(i).contains(word)) {
                count++;
            }
        }
        return count;
    }

    int octet(int k) {
        return k >= 0 && k < page.length() ? page.charAt(k) : -1;
    }

    int face(int room, int k) {
        require(room >= 0 && room < r);
        List<Integer> inside = in(room);
        List<Integer> found = new ArrayList<>();
        for (int i : inside) {
            boolean called = false;
            for (int j = 0; j < n(); j++) {
                called |= !inside.contains(j) && numbers[0][j][i] > 0;
            }
            if (called) {
                found.add(i);
            }
        }
        return k >= 0 && k < found.size() ? found.get(k) : -1;
    }

    private Set<Integer> ledTo(int room) {
        Set<Integer> seen = new TreeSet<>();
        List<Integer> open = new ArrayList<>(List.of(room));
        while (!open.isEmpty()) {
            int from = open.remove(0);
            for (int i : in(from)) {
                for (int j : housed()) {
                    if (numbers[0][i][j] > 0 && seen.add(rooms[j])) {
                        open.add(rooms[j]);
                    }
                }
            }
        }
        return seen;
    }

    int ring(int room) {
        require(room >= 0 && room < r);
        int bits = 1 << room;
        for (int other : ledTo(room)) {
            if (ledTo(other).contains(room)) {
                bits |= 1 << other;
            }
        }
        return bits;
    }

    int change(int low, int high) {
        Set<Integer> change = new TreeSet<>();
        for (int bit = 0; bit < 32; bit++) {
            if ((low >> bit & 1) == 1) {
                require(bit < 20 && bit < n());
                change.add(bit);
            }
            if ((high >> bit & 1) == 1) {
                require(bit < 20 && bit + 20 < n());
                change.add(bit + 20);
            }
        }
        if (changes.size() == 60) {
            return -1;
        }
        changes.add(change);
        return changes.size();
    }

    int alone() {
        List<Integer> housed = housed();
        int count = 0;
        for (Set<Integer> change : changes) {
            Set<Integer> touched = new TreeSet<>();
            for (int i : change) {
                if (housed.contains(i)) {
                    touched.add(rooms[i]);
                }
            }
            if (touched.size() == 1) {
                count++;
            }
        }
        return count;
    }

    int keep() {
        kept = new int[40];
        java.util.Arrays.fill(kept, -1);
        for (int i : housed()) {
            kept[i] = rooms[i];
        }
        return housed().size();
    }

    int moves() {
        return kept == null ? -1 : leastMoves(housed(), new int[6], 0);
    }

    private int leastMoves(List<Integer> housed, int[] anew, int next) {
        if (next == 6) {
            int count = 0;
            for (int i : housed) {
                if (kept[i] != -1 && anew[kept[i]] != rooms[i]) {
                    count++;
                }
            }
            return count;
        }
        int least = 41;
        for (int room = 0; room < 6; room++) {
            boolean free = true;
            for (int k = 0; k < next; k++) {
                free &= anew[k] != room;
            }
            if (free) {
                anew[next] = room;
                least = Math.min(least, leastMoves(housed, anew, next + 1));
            }
        }
        return least;
    }

    int count(int what) {
        switch (what) {
            case 0: return n();
            case 1: return n() - housed().size();
            case 2: return changes.size();
            case 3: return tape.size();
            case 4: return page.length();
            case 5: return broken(housed(), rooms);
            default: return -1;
        }
    }
}
