import java.util.ArrayList;

/** Routines put into rooms by their ties. The document's promises say what every call answers. */
public final class CodeRooms {
    public static final int NONE = -1;

    private static final int MOST_ROUTINES = 40;
    private static final int MOST_ROOMS = 6;
    private static final int MOST_TAPE = 40;
    private static final int MOST_NAME = 20;
    private static final int MOST_CHANGES = 60;
    private static final int MOST_STEPS = 100;
    private static final int MOST_SEARCHED = 9;
    private static final int MOST_SEARCHED_ROOMS = 3;
    private static final int FEED_BYTES = 20;

    private static final int KINDS = 3;
    private static final int CALLS = 0;
    private static final int SHARES = 1;
    private static final int CHANGES = 2;
    private static final int MOST_TIE = 1_000;
    private static final int MOST_TOLD = 999_999;

    private static final int SETTINGS = 6;
    private static final int EVEN = 3;
    private static final int LIMIT = 4;
    private static final int ROOMS = 5;
    private static final int[] LEAST_SETTING = {0, 0, 0, 0, 0, 1};
    private static final int[] MOST_SETTING = {9, 9, 9, 100, 40, 6};

    private static final int NO_MUST = 0;
    private static final int TOGETHER = 1;
    private static final int APART = 2;
    private static final int MUST_PRICE = 1_000_000;
    private static final long NO_BORDER = 1_000_000_000L;
    private static final long ABOVE_ALL_COSTS = 1_000_000_000_000_000L;

    private static final int HALF = 20;
    private static final int HALF_BITS = (1 << HALF) - 1;

    private static final int NO_NAME = -1;
    private static final int NAME_TAKEN = -2;

    private final Text tape;
    private final Text page;
    private final Plan plan;
    private final Glossary glossary;
    private final Mender mender;
    private final Search search;
    private final Traffic traffic;
    private final Past past;
    private final Kept kept;

    public CodeRooms() {
        tape = new Text(MOST_TAPE);
        page = new Text(MOST_NAME);
        plan = new Plan();
        glossary = new Glossary();
        mender = new Mender(plan);
        search = new Search(plan);
        traffic = new Traffic(plan);
        past = new Past();
        kept = new Kept();
    }

    public int feed(int a, int b, int c, int d, int e) {
        if (tape.size + FEED_BYTES > MOST_TAPE) {
            return NONE;
        }
        tape.addNumber(a);
        tape.addNumber(b);
        tape.addNumber(c);
        tape.addNumber(d);
        tape.addNumber(e);
        return tape.size;
    }

    public int routine(int n) throws IllegalArgumentException, IllegalStateException {
        if (n < 0 || n > tape.size) {
            throw new IllegalArgumentException("the tape has not so many bytes");
        }
        if (plan.size >= MOST_ROUTINES) {
            throw new IllegalStateException("there are 40 routines");
        }
        Text label = tape.part(0, n);
        tape.clear();
        if (!label.isName()) {
            return NO_NAME;
        }
        if (plan.hasName(label)) {
            return NAME_TAKEN;
        }
        Routine added = plan.add(label);
        glossary.learn(label, added.bit);
        return added.number;
    }

    public int tie(int routine, int other, int kind, int n) throws IndexOutOfBoundsException, IllegalArgumentException {
        Routine from = known(routine);
        Routine to = known(other);
        if (routine == other || kind < 0 || kind >= KINDS || n < 1 || n > MOST_TIE) {
            throw new IllegalArgumentException("one routine twice, no such kind, or no such number");
        }
        return plan.tell(from, to, kind, n);
    }

    public int ties(int routine, int other) throws IndexOutOfBoundsException, IllegalArgumentException {
        Routine one = known(routine);
        Routine two = known(other);
        if (routine == other) {
            throw new IllegalArgumentException("one routine twice");
        }
        return one.tieWith[two.number];
    }

    public int set(int what, int v) throws IllegalArgumentException {
        if (what < 0 || what >= SETTINGS || v < LEAST_SETTING[what] || v > MOST_SETTING[what]) {
            throw new IllegalArgumentException("no such setting, or no such value of it");
        }
        return plan.alter(what, v);
    }

    public int must(int routine, int other, int must) throws IndexOutOfBoundsException, IllegalArgumentException {
        Routine one = known(routine);
        Routine two = known(other);
        if (routine == other || must < NO_MUST || must > APART) {
            throw new IllegalArgumentException("one routine twice, or no such must");
        }
        int was = one.mustWith[two.number];
        one.mustWith[two.number] = must;
        two.mustWith[one.number] = must;
        return was;
    }

    public int fix(int routine, int room) throws IndexOutOfBoundsException, IllegalArgumentException {
        Routine one = known(routine);
        if (room < NONE || room >= MOST_ROOMS) {
            throw new IllegalArgumentException("no such room");
        }
        int was = one.fixedTo;
        one.fixedTo = room;
        return was;
    }

    public boolean hub(int routine) throws IndexOutOfBoundsException {
        return known(routine).isHub;
    }

    public int room(int routine) throws IndexOutOfBoundsException {
        Routine one = known(routine);
        return one.isHub ? NONE : one.place;
    }

    public int put(int routine, int room) throws IndexOutOfBoundsException, IllegalArgumentException {
        Routine one = known(routine);
        needRoom(room);
        if (one.isHub) {
            return NONE;
        }
        int was = one.place;
        one.place = room;
        return was;
    }

    public long cost() {
        return plan.price();
    }

    public int better() {
        return mender.mend();
    }

    public long best() {
        return search.settleBest();
    }

    public long border(int routine) throws IndexOutOfBoundsException {
        Routine one = known(routine);
        return one.isHub ? NO_BORDER : mender.leastShift(one);
    }

    public int name(int room) throws IllegalArgumentException {
        needRoom(room);
        plan.gather();
        page.clear();
        Word word = glossary.wordFor(plan.members[room], plan.housedBits() & ~plan.members[room]);
        if (word != null) {
            page.addAll(word.letters);
        }
        return page.size;
    }

    public int octet(int k) {
        return page.at(k);
    }

    public int face(int room, int k) throws IllegalArgumentException {
        needRoom(room);
        return traffic.calledFromOutside(room, k);
    }

    public int ring(int room) throws IllegalArgumentException {
        needRoom(room);
        return traffic.roomsAround(room);
    }

    public int change(int low, int high) throws IllegalArgumentException {
        long routines = (long) low | ((long) high << HALF);
        if ((low & ~HALF_BITS) != 0 || (high & ~HALF_BITS) != 0 || (routines >>> plan.size) != 0) {
            throw new IllegalArgumentException("bits that tell no routine");
        }
        return past.add(routines);
    }

    public int alone() {
        plan.gather();
        return past.countAlone(plan);
    }

    public int keep() {
        return kept.hold(plan);
    }

    public int moves() {
        return kept.distance(plan);
    }

    public int count(int what) {
        switch (what) {
            case 0:
                return plan.size;
            case 1:
                return plan.size - plan.housedCount;
            case 2:
                return past.size;
            case 3:
                return tape.size;
            case 4:
                return page.size;
            case 5:
                return plan.brokenMusts();
            default:
                return NONE;
        }
    }

    private Routine known(int number) {
        if (number < 0 || number >= plan.size) {
            throw new IndexOutOfBoundsException("no such routine");
        }
        return plan.routines[number];
    }

    private void needRoom(int number) {
        if (number < 0 || number >= plan.roomCount()) {
            throw new IllegalArgumentException("no such room");
        }
    }

    /** A row of bytes with room for so many: the tape, the page, a name, a word. */
    private static final class Text {
        private final byte[] bytes;
        private int size;

        Text(int most) {
            bytes = new byte[Math.max(0, most)];
            size = 0;
        }

        void add(int octet) {
            if (size < bytes.length) {
                bytes[size] = (byte) octet;
                size++;
            }
        }

        void addNumber(int number) {
            add(number >>> 24);
            add(number >>> 16);
            add(number >>> 8);
            add(number);
        }

        void addAll(Text other) {
            for (int k = 0; k < other.size; k++) {
                add(other.bytes[k]);
            }
        }

        void clear() {
            size = 0;
        }

        int at(int k) {
            return k < 0 || k >= size ? NONE : bytes[k] & 255;
        }

        Text part(int from, int to) {
            Text made = new Text(to - from);
            for (int k = from; k < to; k++) {
                made.add(at(k));
            }
            return made;
        }

        boolean isName() {
            if (size < 1 || size > MOST_NAME) {
                return false;
            }
            for (int k = 0; k < size; k++) {
                int octet = at(k);
                if (octet != '_' && (octet < 'a' || octet > 'z')) {
                    return false;
                }
            }
            return true;
        }

        /** Below 0: this one is ahead by letters; 0: both are alike. */
        int compareWith(Text other) {
            int both = Math.min(size, other.size);
            for (int k = 0; k < both; k++) {
                int difference = at(k) - other.at(k);
                if (difference != 0) {
                    return difference;
                }
            }
            return size - other.size;
        }
    }

    /** What is told of one routine, and where it is. */
    private static final class Routine {
        private final int number;
        private final long bit;
        private final Text label;
        private final int[][] told = new int[KINDS][MOST_ROUTINES];
        private final int[] tieWith = new int[MOST_ROUTINES];
        private final int[] mustWith = new int[MOST_ROUTINES];
        private final long[] pulls = new long[MOST_ROOMS];
        private long tiedTo;
        private long callers;
        private long callees;
        private int fixedTo = NONE;
        private int place;
        private boolean isHub;

        Routine(int number, Text label) {
            this.number = number;
            this.label = label;
            bit = 1L << number;
        }

        void setTie(Routine other, int tie) {
            tieWith[other.number] = tie;
            tiedTo = tie > 0 ? tiedTo | other.bit : tiedTo & ~other.bit;
        }

        boolean isMisplaced() {
            return fixedTo != NONE && fixedTo != place;
        }

        boolean clashesWith(Routine other) {
            int must = mustWith[other.number];
            return must == TOGETHER && place != other.place || must == APART && place == other.place;
        }

        /** How much less COST is with both in one room than in two, but for EVEN. */
        int pullOf(Routine other) {
            int tie = tieWith[other.number];
            switch (mustWith[other.number]) {
                case TOGETHER:
                    return tie + MUST_PRICE;
                case APART:
                    return tie - MUST_PRICE;
                default:
                    return tie;
            }
        }
    }

    /** The routines, the settings and the division that is had. */
    private static final class Plan {
        private final Routine[] routines = new Routine[MOST_ROUTINES];
        private final Routine[] housed = new Routine[MOST_ROUTINES];
        private final int[] settings = {1, 1, 1, 1, 40, 2};
        private final long[] members = new long[MOST_ROOMS];
        private int size;
        private int housedCount;

        int roomCount() {
            return settings[ROOMS];
        }

        int even() {
            return settings[EVEN];
        }

        boolean hasName(Text label) {
            for (int i = 0; i < size; i++) {
                if (routines[i].label.compareWith(label) == 0) {
                    return true;
                }
            }
            return false;
        }

        Routine add(Text label) {
            Routine added = new Routine(size, label);
            if (size < MOST_ROUTINES) {
                routines[size] = added;
                size++;
            }
            settle();
            return added;
        }

        int tell(Routine from, Routine to, int kind, int n) {
            int told = Math.min(MOST_TOLD, from.told[kind][to.number] + n);
            from.told[kind][to.number] = told;
            if (kind == CALLS) {
                from.callees |= to.bit;
                to.callers |= from.bit;
            } else {
                to.told[kind][from.number] = told;
            }
            weighTie(from, to);
            settle();
            return told;
        }

        int alter(int what, int value) {
            int was = settings[what];
            settings[what] = value;
            if (what < KINDS) {
                weighTies();
            }
            settle();
            return was;
        }

        private void weighTies() {
            for (int i = 0; i < size; i++) {
                for (int j = i + 1; j < size; j++) {
                    weighTie(routines[i], routines[j]);
                }
            }
        }

        private void weighTie(Routine one, Routine two) {
            int calls = one.told[CALLS][two.number] + two.told[CALLS][one.number];
            int tie = settings[CALLS] * calls
                + settings[SHARES] * one.told[SHARES][two.number]
                + settings[CHANGES] * one.told[CHANGES][two.number];
            one.setTie(two, tie);
            two.setTie(one, tie);
        }

        /** A hub forgets its room at once, so that it is in room 0 when it is none any more. */
        private void settle() {
            housedCount = 0;
            for (int i = 0; i < size; i++) {
                Routine one = routines[i];
                one.isHub = Long.bitCount(one.tiedTo) > settings[LIMIT];
                if (one.isHub || one.place >= roomCount()) {
                    one.place = 0;
                }
                if (!one.isHub) {
                    housed[housedCount] = one;
                    housedCount++;
                }
            }
        }

        void gather() {
            for (int room = 0; room < MOST_ROOMS; room++) {
                members[room] = 0;
            }
            for (int i = 0; i < housedCount; i++) {
                members[housed[i].place] |= housed[i].bit;
            }
        }

        long housedBits() {
            long bits = 0;
            for (int i = 0; i < housedCount; i++) {
                bits |= housed[i].bit;
            }
            return bits;
        }

        long price() {
            return (long) MUST_PRICE * brokenMusts() + (long) even() * squares() + tiesBetweenRooms();
        }

        int brokenMusts() {
            int broken = 0;
            for (int i = 0; i < housedCount; i++) {
                if (housed[i].isMisplaced()) {
                    broken++;
                }
                for (int j = i + 1; j < housedCount; j++) {
                    if (housed[i].clashesWith(housed[j])) {
                        broken++;
                    }
                }
            }
            return broken;
        }

        private int squares() {
            gather();
            int sum = 0;
            for (int room = 0; room < MOST_ROOMS; room++) {
                int inside = Long.bitCount(members[room]);
                sum += inside * inside;
            }
            return sum;
        }

        private long tiesBetweenRooms() {
            long sum = 0;
            for (int i = 0; i < housedCount; i++) {
                for (int j = i + 1; j < housedCount; j++) {
                    if (housed[i].place != housed[j].place) {
                        sum += housed[i].tieWith[housed[j].number];
                    }
                }
            }
            return sum;
        }
    }

    /** A word of names, with the routines that have it as bits. */
    private static final class Word {
        private final Text letters;
        private long holders;

        Word(Text letters, long holders) {
            this.letters = letters;
            this.holders = holders;
        }
    }

    /** All words by letters, so that the first of the greatest is the first that is met. */
    private static final class Glossary {
        private final ArrayList<Word> words = new ArrayList<>();

        void learn(Text label, long holder) {
            int start = 0;
            for (int k = 0; k <= label.size; k++) {
                if (k == label.size || label.at(k) == '_') {
                    if (k > start) {
                        enter(label.part(start, k), holder);
                    }
                    start = k + 1;
                }
            }
        }

        private void enter(Text letters, long holder) {
            int spot = 0;
            while (spot < words.size() && words.get(spot).letters.compareWith(letters) < 0) {
                spot++;
            }
            if (spot < words.size() && words.get(spot).letters.compareWith(letters) == 0) {
                words.get(spot).holders |= holder;
            } else {
                words.add(spot, new Word(letters, holder));
            }
        }

        Word wordFor(long inside, long outside) {
            int insideCount = Long.bitCount(inside);
            int outsideCount = Long.bitCount(outside);
            Word chosen = null;
            int greatest = 0;
            for (int k = 0; k < words.size(); k++) {
                Word word = words.get(k);
                int having = Long.bitCount(word.holders & inside);
                int score = having * outsideCount - Long.bitCount(word.holders & outside) * insideCount;
                if (having > 0 && (chosen == null || score > greatest)) {
                    chosen = word;
                    greatest = score;
                }
            }
            return chosen;
        }
    }

    /** Betters the division step by step; pulls are kept up with, so that a step need not count COST anew. */
    private static final class Mender {
        private final Plan plan;
        private final int[] sizes = new int[MOST_ROOMS];
        private long least;
        private Routine mover;
        private Routine partner;
        private int target;

        Mender(Plan plan) {
            this.plan = plan;
        }

        int mend() {
            countSizes();
            for (int i = 0; i < plan.housedCount; i++) {
                weighPulls(plan.housed[i]);
            }
            int steps = 0;
            while (steps < MOST_STEPS && findStep()) {
                takeStep();
                steps++;
            }
            return steps;
        }

        long leastShift(Routine one) {
            countSizes();
            weighPulls(one);
            long found = NO_BORDER;
            boolean any = false;
            for (int to = 0; to < plan.roomCount(); to++) {
                if (to != one.place) {
                    long shift = shiftOf(one, to);
                    found = any ? Math.min(found, shift) : shift;
                    any = true;
                }
            }
            return found;
        }

        private void countSizes() {
            for (int k = 0; k < MOST_ROOMS; k++) {
                sizes[k] = 0;
            }
            for (int i = 0; i < plan.housedCount; i++) {
                sizes[plan.housed[i].place]++;
            }
        }

        private void weighPulls(Routine one) {
            for (int k = 0; k < MOST_ROOMS; k++) {
                one.pulls[k] = one.fixedTo == k ? MUST_PRICE : 0;
            }
            for (int i = 0; i < plan.housedCount; i++) {
                Routine other = plan.housed[i];
                if (other != one) {
                    one.pulls[other.place] += one.pullOf(other);
                }
            }
        }

        private boolean findStep() {
            least = 0;
            mover = null;
            partner = null;
            findMove();
            findSwap();
            return mover != null;
        }

        private void findMove() {
            for (int i = 0; i < plan.housedCount; i++) {
                Routine one = plan.housed[i];
                for (int to = 0; to < plan.roomCount(); to++) {
                    if (to != one.place) {
                        long shift = shiftOf(one, to);
                        if (shift < least) {
                            least = shift;
                            mover = one;
                            target = to;
                        }
                    }
                }
            }
        }

        private void findSwap() {
            for (int i = 0; i < plan.housedCount; i++) {
                Routine one = plan.housed[i];
                for (int j = i + 1; j < plan.housedCount; j++) {
                    Routine two = plan.housed[j];
                    if (one.place != two.place) {
                        long trade = tradeOf(one, two);
                        if (trade < least) {
                            least = trade;
                            mover = one;
                            partner = two;
                        }
                    }
                }
            }
        }

        private long shiftOf(Routine one, int to) {
            int unevener = 2 * (sizes[to] - sizes[one.place] + 1);
            return one.pulls[one.place] - one.pulls[to] + (long) plan.even() * unevener;
        }

        /** Each one's pull counts the other one where it no longer is, hence twice their own pull. */
        private long tradeOf(Routine one, Routine two) {
            return one.pulls[one.place] - one.pulls[two.place]
                + two.pulls[two.place] - two.pulls[one.place]
                + 2L * one.pullOf(two);
        }

        private void takeStep() {
            if (mover == null) {
                return;
            }
            if (partner == null) {
                carry(mover, target);
                return;
            }
            int left = mover.place;
            carry(mover, partner.place);
            carry(partner, left);
        }

        private void carry(Routine one, int to) {
            for (int i = 0; i < plan.housedCount; i++) {
                Routine other = plan.housed[i];
                if (other != one) {
                    int pull = other.pullOf(one);
                    other.pulls[one.place] -= pull;
                    other.pulls[to] += pull;
                }
            }
            sizes[one.place]--;
            sizes[to]++;
            one.place = to;
        }
    }

    /** The best of all divisions of few routines. */
    private static final class Search {
        private final Plan plan;
        private final int[] trial = new int[MOST_SEARCHED];
        private final int[] found = new int[MOST_SEARCHED];
        private long least;

        Search(Plan plan) {
            this.plan = plan;
        }

        long settleBest() {
            if (plan.housedCount > MOST_SEARCHED || plan.roomCount() > MOST_SEARCHED_ROOMS) {
                return NONE;
            }
            least = ABOVE_ALL_COSTS;
            tryFrom(0, 0, fixedRooms());
            for (int i = 0; i < plan.housedCount; i++) {
                plan.housed[i].place = found[i];
            }
            return least;
        }

        private int fixedRooms() {
            int rooms = 0;
            for (int i = 0; i < plan.housedCount; i++) {
                if (plan.housed[i].fixedTo != NONE) {
                    rooms |= 1 << plan.housed[i].fixedTo;
                }
            }
            return rooms;
        }

        /** What is placed never gets cheaper, so a beginning that costs as much as the best so far is left. */
        private void tryFrom(int depth, long soFar, int unlike) {
            if (soFar >= least) {
                return;
            }
            if (depth >= plan.housedCount || depth >= MOST_SEARCHED) {
                least = soFar;
                System.arraycopy(trial, 0, found, 0, MOST_SEARCHED);
                return;
            }
            tryRooms(depth, soFar, unlike);
        }

        /** Empty rooms that no routine is fixed to are all alike, so the first of them stands for the others. */
        private void tryRooms(int depth, long soFar, int unlike) {
            boolean triedAlike = false;
            for (int to = 0; to < plan.roomCount(); to++) {
                boolean isAlike = (unlike & 1 << to) == 0;
                if (!isAlike || !triedAlike) {
                    trial[depth] = to;
                    tryFrom(depth + 1, soFar + priceOfAdding(depth, to), unlike | 1 << to);
                }
                triedAlike |= isAlike;
            }
        }

        private long priceOfAdding(int depth, int to) {
            Routine added = plan.housed[depth];
            long price = added.fixedTo != NONE && added.fixedTo != to ? MUST_PRICE : 0;
            int already = 0;
            for (int i = 0; i < depth; i++) {
                int other = plan.housed[i].number;
                int must = added.mustWith[other];
                if (trial[i] == to) {
                    already++;
                    price += must == APART ? MUST_PRICE : 0;
                } else {
                    price += added.tieWith[other] + (must == TOGETHER ? MUST_PRICE : 0);
                }
            }
            return price + (long) plan.even() * (2 * already + 1);
        }
    }

    /** Calls between rooms. */
    private static final class Traffic {
        private final Plan plan;
        private final int[] reached = new int[MOST_ROOMS];

        Traffic(Plan plan) {
            this.plan = plan;
        }

        int calledFromOutside(int from, int k) {
            plan.gather();
            int met = 0;
            for (int i = 0; i < plan.housedCount; i++) {
                Routine one = plan.housed[i];
                if (one.place == from && (one.callers & ~plan.members[from]) != 0) {
                    if (met == k) {
                        return one.number;
                    }
                    met++;
                }
            }
            return NONE;
        }

        int roomsAround(int from) {
            findCalled();
            leadOn();
            int around = 1 << from;
            for (int to = 0; to < MOST_ROOMS; to++) {
                if (leads(from, to) && leads(to, from)) {
                    around |= 1 << to;
                }
            }
            return around;
        }

        private void findCalled() {
            plan.gather();
            for (int k = 0; k < MOST_ROOMS; k++) {
                reached[k] = 0;
            }
            for (int i = 0; i < plan.housedCount; i++) {
                Routine one = plan.housed[i];
                for (int to = 0; to < MOST_ROOMS; to++) {
                    if ((one.callees & plan.members[to]) != 0) {
                        reached[one.place] |= 1 << to;
                    }
                }
            }
        }

        private void leadOn() {
            for (int over = 0; over < MOST_ROOMS; over++) {
                for (int from = 0; from < MOST_ROOMS; from++) {
                    if (leads(from, over)) {
                        reached[from] |= reached[over];
                    }
                }
            }
        }

        private boolean leads(int from, int to) {
            return (reached[from] & 1 << to) != 0;
        }
    }

    /** Changes of the past, each the bits of its routines. */
    private static final class Past {
        private final long[] changes = new long[MOST_CHANGES];
        private int size;

        int add(long routines) {
            if (size >= MOST_CHANGES) {
                return NONE;
            }
            changes[size] = routines;
            size++;
            return size;
        }

        int countAlone(Plan plan) {
            long housedBits = plan.housedBits();
            int met = 0;
            for (int i = 0; i < size; i++) {
                if (isInOneRoom(changes[i] & housedBits, plan)) {
                    met++;
                }
            }
            return met;
        }

        private static boolean isInOneRoom(long routines, Plan plan) {
            for (int k = 0; k < MOST_ROOMS; k++) {
                if (routines != 0 && (routines & ~plan.members[k]) == 0) {
                    return true;
                }
            }
            return false;
        }
    }

    /** The division that is kept, and how far the one had now is from it. */
    private static final class Kept {
        private final int[] places = new int[MOST_ROUTINES];
        private final int[][] alike = new int[MOST_ROOMS][MOST_ROOMS];
        private boolean isHeld;

        int hold(Plan plan) {
            for (int i = 0; i < MOST_ROUTINES; i++) {
                places[i] = NONE;
            }
            for (int i = 0; i < plan.housedCount; i++) {
                places[plan.housed[i].number] = plan.housed[i].place;
            }
            isHeld = true;
            return plan.housedCount;
        }

        int distance(Plan plan) {
            return isHeld ? countPairs(plan) - mostAlike(alike, 0, 0) : NONE;
        }

        private int countPairs(Plan plan) {
            for (int then = 0; then < MOST_ROOMS; then++) {
                for (int now = 0; now < MOST_ROOMS; now++) {
                    alike[then][now] = 0;
                }
            }
            int pairs = 0;
            for (int i = 0; i < plan.housedCount; i++) {
                int then = places[plan.housed[i].number];
                if (then != NONE) {
                    alike[then][plan.housed[i].place]++;
                    pairs++;
                }
            }
            return pairs;
        }

        /** Of all ways to number the rooms from then on anew, the most routines that stay. */
        private static int mostAlike(int[][] alike, int then, int taken) {
            if (then >= MOST_ROOMS) {
                return 0;
            }
            int most = 0;
            for (int now = 0; now < MOST_ROOMS; now++) {
                if ((taken & 1 << now) == 0) {
                    most = Math.max(most, alike[then][now] + mostAlike(alike, then + 1, taken | 1 << now));
                }
            }
            return most;
        }
    }
}
