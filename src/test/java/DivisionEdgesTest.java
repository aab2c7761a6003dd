/** Each sentence of parts 2 and 3 of the document's "Terms" that names a boundary or an order, on both sides of it. */
public final class DivisionEdgesTest {
    private static final int CALLS = 0;
    private static final int SHARES = 1;
    private static final int CHANGES = 2;
    private static final int EVEN = 3;
    private static final int LIMIT = 4;
    private static final int ROOMS = 5;

    private static final Checks checks = new Checks("DivisionEdgesTest");

    private static void same(String what, long got, long want) {
        checks.same(what, got, want);
    }

    private static void same(String what, String got, String want) {
        checks.same(what, got, want);
    }

    public static void main(String[] args) {
        onlyIfLess();
        movesOfAllRooms();
        swapsOfUnlikeRooms();
        theLeastCost();
        movesAheadOfSwaps();
        orderOfMoves();
        orderOfSwaps();
        stepAfterStep();
        bestOfFew();
        bestOfNone();
        firstOfTheBest();
        bestWithRoomsTold();
        borders();
        bordersOfHubsAndOneRoom();
        greatestWord();
        firstByLetters();
        wordsOfNone();
        facesFromOutside();
        rings();
        ringsOfSix();
        sixtyChanges();
        aloneInOneRoom();
        keptAtSomeTime();
        numberedAnew();
        hubsNowAndThen();
        checks.end();
    }

    private static CodeRooms uneven(int count) {
        CodeRooms x = Names.with(count);
        x.set(EVEN, 0);
        return x;
    }

    private static void bettered(String what, CodeRooms x, int steps, String division) {
        same(what + ": steps", x.better(), steps);
        same(what + ": division", Names.division(x), division);
    }

    /** "if that is less than it was". */
    private static void onlyIfLess() {
        int[] ties = {1, 2, 3};
        for (int tie : ties) {
            CodeRooms x = Names.with(2);
            x.tie(0, 1, SHARES, tie);
            bettered("apart is cheaper by 2, a tie of " + tie, x, tie < 2 ? 1 : 0, tie < 2 ? "10" : "00");
            CodeRooms y = Names.with(2);
            y.put(1, 1);
            y.tie(0, 1, SHARES, tie);
            bettered("together is dearer by 2, a tie of " + tie, y, tie > 2 ? 1 : 0, tie > 2 ? "11" : "01");
        }
        bettered("all cost the same", uneven(5), 0, "00000");
        bettered("no routine", new CodeRooms(), 0, "");
        CodeRooms swap = Names.with(4);
        swap.set(EVEN, 100);
        Names.divide(swap, "0011");
        swap.tie(0, 2, SHARES, 5);
        swap.tie(0, 1, SHARES, 5);
        bettered("a swap that costs the same", swap, 0, "0011");
        swap.tie(0, 2, SHARES, 1);
        bettered("a swap that costs 1 less", swap, 1, "1010");
    }

    /** "a ROUTINE that is no HUB to another ROOM": from each room to each other one. */
    private static void movesOfAllRooms() {
        for (int from = 0; from < 6; from++) {
            for (int to = 0; to < 6; to++) {
                CodeRooms x = uneven(1);
                x.set(ROOMS, 6);
                x.put(0, from);
                x.fix(0, to);
                bettered("from " + from + " to " + to, x, from == to ? 0 : 1, String.valueOf(to));
            }
        }
        CodeRooms gone = uneven(1);
        gone.fix(0, 2);
        bettered("a room that is not there", gone, 0, "0");
    }

    /** "two of these, of unlike ROOMS, change them": each pair of five. */
    private static void swapsOfUnlikeRooms() {
        for (int i = 0; i < 5; i++) {
            for (int j = i + 1; j < 5; j++) {
                CodeRooms x = Names.with(5);
                x.set(EVEN, 100);
                x.set(ROOMS, 3);
                x.put(i, 1);
                x.put(j, 2);
                x.tie(i, j, CALLS, 1);
                x.fix(i, 2);
                x.fix(j, 1);
                x.set(EVEN, 0);
                same("a swap of " + i + " and " + j + " is one step", x.better(), 1);
                same("the one is there", x.room(i), 2);
                same("so is the other", x.room(j), 1);
            }
        }
        CodeRooms alike = uneven(2);
        alike.fix(0, 1);
        alike.fix(1, 1);
        bettered("two of one room move one by one", alike, 2, "11");
    }

    /** "the one by which COST becomes least": a swap that is better than each move, and a move that is better. */
    private static void theLeastCost() {
        CodeRooms x = uneven(4);
        Names.divide(x, "0101");
        x.tie(0, 3, SHARES, 5);
        x.tie(1, 2, SHARES, 4);
        bettered("a swap of 9 ahead of a move of 5", x, 1, "1001");
        CodeRooms y = uneven(4);
        Names.divide(y, "0101");
        y.tie(0, 3, SHARES, 5);
        y.tie(0, 1, SHARES, 4);
        bettered("a move of 9 ahead of all", y, 1, "1101");
        CodeRooms z = uneven(3);
        Names.divide(z, "001");
        z.must(0, 1, 2);
        z.tie(0, 2, SHARES, 3);
        z.tie(1, 2, SHARES, 4);
        bettered("a later routine that gains more ahead of an earlier one", z, 1, "011");
        CodeRooms far = uneven(3);
        far.set(ROOMS, 3);
        Names.divide(far, "012");
        far.tie(0, 1, SHARES, 3);
        far.tie(0, 2, SHARES, 4);
        far.must(1, 2, 2);
        bettered("a later room that gains more ahead of an earlier one", far, 1, "212");
    }

    /** "of these moves ahead of swaps". */
    private static void movesAheadOfSwaps() {
        CodeRooms x = uneven(3);
        Names.divide(x, "001");
        x.tie(1, 2, SHARES, 7);
        bettered("a move of 1 is as good as a swap of 0 and 2", x, 1, "011");
    }

    /** "of moves the least ROUTINE, then the least ROOM". */
    private static void orderOfMoves() {
        CodeRooms routines = uneven(3);
        Names.divide(routines, "001");
        routines.set(ROOMS, 3);
        routines.tie(0, 2, SHARES, 3);
        bettered("0 to 2 or 2 to 0: the least routine", routines, 1, "101");
        CodeRooms rooms = Names.with(4);
        rooms.set(ROOMS, 4);
        Names.divide(rooms, "3333");
        bettered("the least room, three times", rooms, 3, "0123");
        CodeRooms both = uneven(4);
        both.set(ROOMS, 4);
        Names.divide(both, "3120");
        both.tie(0, 1, SHARES, 2);
        both.tie(0, 2, SHARES, 2);
        both.tie(0, 3, SHARES, 2);
        same("the least routine goes to the least room, then the others come", both.better(), 3);
        same("all are there", Names.division(both), "0000");
        CodeRooms first = uneven(3);
        first.set(ROOMS, 3);
        Names.divide(first, "201");
        first.tie(0, 1, SHARES, 2);
        first.tie(0, 2, SHARES, 2);
        first.must(1, 2, 2);
        bettered("of two rooms that pull alike the least", first, 1, "001");
    }

    /** "of swaps the least ROUTINE, then the least other one". */
    private static void orderOfSwaps() {
        CodeRooms x = Names.with(4);
        x.set(EVEN, 100);
        Names.divide(x, "0110");
        x.tie(0, 2, SHARES, 4);
        x.tie(1, 3, SHARES, 4);
        bettered("0 with 1, or 2 with 3", x, 1, "1010");
        CodeRooms y = Names.with(6);
        y.set(EVEN, 100);
        Names.divide(y, "000111");
        y.tie(0, 5, SHARES, 4);
        bettered("0 with 3 or 4, 1 or 2 with 5", y, 1, "100011");
        CodeRooms z = Names.with(6);
        z.set(EVEN, 100);
        z.must(0, 3, 2);
        Names.divide(z, "000111");
        z.tie(0, 5, SHARES, 4);
        z.tie(0, 4, SHARES, 1);
        z.must(0, 4, 2);
        bettered("1 with 5, not 0 with those that must be apart", z, 1, "010110");
    }

    /** "STEP by STEP": each one sees what those before it did. */
    private static void stepAfterStep() {
        CodeRooms even = Names.with(6);
        even.set(ROOMS, 3);
        bettered("four moves make three rooms even", even, 4, "121200");
        CodeRooms mixed = uneven(5);
        Names.divide(mixed, "00110");
        mixed.fix(0, 1);
        mixed.fix(2, 0);
        mixed.fix(4, 1);
        bettered("a swap, then a move", mixed, 2, "10011");
        CodeRooms room = Names.with(4);
        room.set(ROOMS, 1);
        bettered("one room", room, 0, "0000");
    }

    /** "It is told of 9 ROUTINES that are no HUBS at most, and R of 3 at most". */
    private static void bestOfFew() {
        for (int rooms = 1; rooms <= 6; rooms++) {
            for (int count = 8; count <= 11; count++) {
                CodeRooms x = Names.with(count);
                x.set(ROOMS, rooms);
                x.set(EVEN, 0);
                x.put(count - 1, rooms - 1);
                String before = Names.division(x);
                boolean told = rooms <= 3 && count <= 9;
                same("best of " + count + " in " + rooms, x.best(), told ? 0 : -1);
                same("division of " + count + " in " + rooms, Names.division(x), told ? "0".repeat(count) : before);
            }
        }
        CodeRooms hubs = Names.with(12);
        hubs.tie(9, 10, SHARES, 1);
        hubs.tie(10, 11, SHARES, 1);
        same("12 routines", hubs.best(), -1);
        hubs.set(LIMIT, 0);
        same("12 routines, 3 of them hubs", hubs.best(), 16 + 25);
        same("the division of nine", Names.division(hubs), "000001111---");
        hubs.set(LIMIT, 1);
        same("12 routines, 1 of them a hub", hubs.best(), -1);
        same("nothing changes", Names.division(hubs), "0000011110-0");
    }

    private static void bestOfNone() {
        CodeRooms x = new CodeRooms();
        same("no routine", x.best(), 0);
        x.set(ROOMS, 4);
        same("no routine, four rooms", x.best(), -1);
        CodeRooms hubs = Names.with(40);
        for (int i = 0; i < 40; i++) {
            hubs.tie(i, (i + 1) % 40, CHANGES, 1);
        }
        hubs.set(LIMIT, 0);
        same("hubs alone", hubs.best(), 0);
        same("all of them", hubs.count(1), 40);
    }

    /** "of these the first (ROUTINE by ROUTINE the least ROOM)". */
    private static void firstOfTheBest() {
        CodeRooms x = Names.with(3);
        same("three in two rooms", x.best(), 5);
        same("the first of six", Names.division(x), "001");
        x.must(0, 1, 2);
        same("with two apart", x.best(), 5);
        same("the first of four", Names.division(x), "010");
        x.set(ROOMS, 3);
        same("in three rooms", x.best(), 3);
        same("the first of six in three rooms", Names.division(x), "012");
        x.fix(0, 1);
        same("with a room that is told", x.best(), 3);
        same("the first of two", Names.division(x), "102");
        x.fix(2, 0);
        same("with two rooms that are told", x.best(), 3);
        same("the only one", Names.division(x), "120");
        x.fix(0, 5);
        x.fix(2, -1);
        same("with a room that is not there", x.best(), 1_000_003);
        same("the first, for it never holds", Names.division(x), "012");
        CodeRooms middle = Names.with(3);
        middle.set(ROOMS, 3);
        middle.fix(2, 1);
        same("with the middle room told to the last one", middle.best(), 3);
        same("the first leaves it free", Names.division(middle), "021");
        CodeRooms had = Names.with(2);
        had.put(0, 1);
        same("the one that is had is as good", had.best(), 2);
        same("and yet the first is taken", Names.division(had), "01");
    }

    /** Rooms that are told to some are not alike, whichever is told last; a tied one goes with the one that is told. */
    private static void bestWithRoomsTold() {
        for (int one = 0; one < 3; one++) {
            for (int two = 0; two < 3; two++) {
                CodeRooms x = uneven(3);
                x.set(ROOMS, 3);
                x.tie(0, 1, SHARES, 10);
                x.fix(1, one);
                x.fix(2, two);
                same("rooms " + one + " and " + two + " are told", x.best(), 0);
                same("the first goes with the second", Names.division(x), "" + one + one + two);
            }
        }
    }

    /** "by how much COST would be more at least, if it went to another ROOM (below 0: less)". */
    private static void borders() {
        CodeRooms x = uneven(3);
        same("as much", x.border(0), 0);
        x.tie(0, 1, SHARES, 4);
        same("more", x.border(0), 4);
        x.put(0, 1);
        same("less, to room 0", x.border(0), -4);
        same("less, to room 1", x.border(1), -4);
        x.set(ROOMS, 6);
        same("at least, of five other rooms", x.border(2), 0);
        x.put(2, 5);
        x.tie(2, 1, SHARES, 9);
        x.tie(2, 0, SHARES, 3);
        same("at least, of rooms 0 and 1", x.border(2), -9);
        x.must(2, 1, 2);
        same("at least, where a must holds", x.border(2), -3);
        x.must(2, 0, 2);
        same("at least, where no must is broken", x.border(2), 0);
        x.fix(2, 4);
        same("to the room where it must be", x.border(2), -1_000_000);
        x.fix(2, 5);
        same("from the room where it must be", x.border(2), 1_000_000);
        same("nothing moves", Names.division(x), "105");
    }

    /** "1,000,000,000 of a HUB, and with R of 1". */
    private static void bordersOfHubsAndOneRoom() {
        CodeRooms x = Names.with(3);
        x.tie(0, 1, SHARES, 1);
        x.tie(0, 2, SHARES, 1);
        x.set(LIMIT, 1);
        same("of a hub", x.border(0), 1_000_000_000L);
        same("of another one", x.border(1), -2);
        x.set(ROOMS, 1);
        same("of a hub with one room", x.border(0), 1_000_000_000L);
        same("of another one with one room", x.border(1), 1_000_000_000L);
        x.set(ROOMS, 2);
        same("with two rooms again", x.border(1), -2);
    }

    /** "how many of them have it, times all other ROUTINES .., less how many of those have it, times all of the ROOM". */
    private static void greatestWord() {
        CodeRooms x = Names.with("a_b", "a_c", "b_d", "a", "a_x", "y", "z_z");
        Names.divide(x, "0001111");
        same("b: 2 of 3 here, 0 of 4 there", Names.nameOf(x, 0), "b");
        x.put(2, 1);
        same("a: 2 of 2 here, 2 of 5 there", Names.nameOf(x, 0), "a");
        x.put(1, 1);
        same("b: 1 of 1 here, 1 of 6 there", Names.nameOf(x, 0), "b");
        CodeRooms below = Names.with("p", "q", "p_q_q", "p_q");
        Names.divide(below, "0011");
        same("below 0 of all words: the first", Names.nameOf(below, 0), "p");
        below.put(1, 1);
        same("one word alone, below 0", Names.nameOf(below, 0), "p");
        CodeRooms hubs = Names.with("m_n", "m", "m_o", "n_s", "n_t");
        Names.divide(hubs, "00111");
        same("n twice there, m once", Names.nameOf(hubs, 0), "m");
        hubs.tie(1, 3, SHARES, 1);
        hubs.tie(1, 4, SHARES, 1);
        hubs.tie(3, 4, SHARES, 1);
        hubs.set(LIMIT, 1);
        same("three hubs", Names.division(hubs), "0-1--");
        same("words of hubs count nowhere", Names.nameOf(hubs, 0), "n");
        hubWithNumberZero();
    }

    /** Were the hub one of the others, both words would have 3, and a would be ahead. */
    private static void hubWithNumberZero() {
        CodeRooms x = Names.with("hub", "a", "a_", "b", "_a", "_");
        x.tie(0, 1, SHARES, 1);
        x.tie(0, 2, SHARES, 1);
        x.set(LIMIT, 1);
        Names.divide(x, "-00011");
        same("a has 2 * 2 - 1 * 3, b has 1 * 2", Names.nameOf(x, 0), "b");
        x.change(3, 0);
        same("a change of hub 0 and one more is alone", x.alone(), 1);
        x.change(1, 0);
        same("one of hub 0 is not", x.alone(), 1);
    }

    /** "of these the first by letters (one that begins another one is ahead of it)". */
    private static void firstByLetters() {
        String[][] ordered = {
            {"a", "aa"}, {"a", "b"}, {"ab", "b"}, {"aaz", "ab"}, {"z", "za"}, {"abcdefghi", "abcdefghij"}, {"y", "z"},
        };
        for (String[] pair : ordered) {
            String name = "first by letters of " + pair[0] + " and " + pair[1];
            same(name, Names.nameOf(Names.with(pair[0] + "_" + pair[1]), 0), pair[0]);
            same(name + ", turned", Names.nameOf(Names.with(pair[1] + "_" + pair[0]), 0), pair[0]);
            same(name + ", of two routines", Names.nameOf(Names.with(pair[1], pair[0]), 0), pair[0]);
        }
    }

    private static void wordsOfNone() {
        CodeRooms x = Names.with("word", "_");
        x.put(1, 1);
        same("a word comes on the page", x.name(0), 4);
        same("none of a room whose routines have none", x.name(1), 0);
        same("the page is empty", x.octet(0), -1);
        x.name(0);
        x.put(1, 0);
        same("none of a room without routines", x.name(1), 0);
        same("the page is empty then, too", x.count(4), 0);
        same("none of a new object", new CodeRooms().name(1), 0);
    }

    /** "its ROUTINES that ROUTINES outside call (HUBS, too)". */
    private static void facesFromOutside() {
        CodeRooms x = Names.with(4);
        x.tie(0, 1, CALLS, 1);
        same("called from inside", x.face(0, 0), -1);
        x.put(0, 1);
        same("called from outside", x.face(0, 0), 1);
        same("the caller is not called", x.face(1, 0), -1);
        x.tie(2, 0, SHARES, 1);
        x.tie(2, 0, CHANGES, 1);
        same("shares and changes are no calls", x.face(1, 0), -1);
        x.tie(3, 1, CALLS, 1);
        same("called from inside and from outside", x.face(0, 0), 1);
        x.set(CALLS, 0);
        x.set(LIMIT, 0);
        same("two hubs", Names.division(x), "-0-0");
        same("called by a hub, weighing nothing", x.face(0, 0), 1);
        same("a hub that is called is of no face", x.face(1, 0), -1);
        CodeRooms all = Names.with(40);
        for (int i = 0; i < 39; i++) {
            all.tie(39, i, CALLS, 1);
        }
        all.put(39, 1);
        for (int k = 0; k < 39; k++) {
            same("the k-th of 39", all.face(0, k), k);
        }
        same("no 40th", all.face(0, 39), -1);
    }

    /** "to which calls of their ROUTINES lead from it, over others perhaps, and from which they lead back". */
    private static void rings() {
        CodeRooms x = Names.with(6);
        x.set(ROOMS, 3);
        Names.divide(x, "001122");
        x.tie(0, 2, CALLS, 1);
        same("there alone", x.ring(0), 1);
        same("of the other one", x.ring(1), 2);
        x.tie(3, 1, CALLS, 1);
        same("there and back, by other routines", x.ring(0), 3);
        same("so from the other one", x.ring(1), 3);
        same("of a third room", x.ring(2), 4);
        x.set(CALLS, 0);
        same("calls of no weight lead, too", x.ring(0), 3);
        x.tie(4, 0, CALLS, 1);
        x.tie(5, 3, CHANGES, 1);
        same("one that leads here alone", x.ring(0), 3);
        same("is in no ring but its own", x.ring(2), 4);
        x.tie(4, 5, CALLS, 1);
        same("calls inside lead nowhere else", x.ring(2), 4);
        same("an empty object", new CodeRooms().ring(1), 2);
        ringsWithHubs();
    }

    /** "calls of their ROUTINES": a hub is of no room, so calls do not lead over it. */
    private static void ringsWithHubs() {
        CodeRooms x = Names.with(4);
        x.set(ROOMS, 3);
        Names.divide(x, "0210");
        x.tie(0, 1, CALLS, 1);
        x.tie(1, 2, CALLS, 1);
        x.tie(2, 0, CALLS, 1);
        x.tie(1, 3, SHARES, 1);
        same("over two others", x.ring(0), 7);
        x.set(LIMIT, 2);
        same("the one between is a hub", Names.division(x), "0-10");
        same("calls lead from the other room, not to it", x.ring(0), 1);
        same("so of the other room", x.ring(1), 2);
        x.tie(0, 2, CALLS, 1);
        same("and past the hub they lead", x.ring(0), 3);
    }

    /** Two rings of three rooms each, whichever way the rooms are numbered; then a call between them, and one back. */
    private static void ringsOfSix() {
        int[] order = {4, 1, 5, 0, 3, 2};
        CodeRooms x = Names.with(6);
        x.set(ROOMS, 6);
        for (int i = 0; i < 6; i++) {
            x.put(i, order[i]);
        }
        for (int i = 0; i < 3; i++) {
            x.tie(i, (i + 1) % 3, CALLS, 1);
            x.tie(i + 3, (i + 1) % 3 + 3, CALLS, 1);
        }
        int first = 1 << 4 | 1 << 1 | 1 << 5;
        for (int i = 0; i < 6; i++) {
            same("two rings", x.ring(order[i]), i < 3 ? first : 63 - first);
        }
        x.tie(0, 3, CALLS, 1);
        for (int i = 0; i < 6; i++) {
            same("two rings, one calls the other", x.ring(order[i]), i < 3 ? first : 63 - first);
        }
        x.tie(5, 2, CALLS, 1);
        for (int room = 0; room < 6; room++) {
            same("one ring of six", x.ring(room), 63);
        }
    }

    /** "CHANGES of the past, 60 at most: sets of ROUTINES". */
    private static void sixtyChanges() {
        CodeRooms x = Names.with(1);
        for (int k = 1; k <= 60; k++) {
            same("up to 60", x.change(1, 0), k);
        }
        same("no 61st", x.change(1, 0), -1);
        same("nor one of none", x.change(0, 0), -1);
        same("60 are had", x.count(2), 60);
        same("60 are alone", x.alone(), 60);
    }

    /** "ALONE is one whose ROUTINES, but HUBS, are in one ROOM, and one at least". */
    private static void aloneInOneRoom() {
        CodeRooms x = Names.with(40);
        x.change(0, 0);
        same("of no routine", x.alone(), 0);
        x.change(0xFFFFF, 0xFFFFF);
        same("of all in one room", x.alone(), 1);
        x.put(39, 1);
        same("but the last", x.alone(), 0);
        x.change(0, 1 << 19);
        same("of the last alone", x.alone(), 1);
        x.change(1 << 19, 1);
        same("of 19 and 20", x.alone(), 2);
        x.put(19, 1);
        same("of 19 and 20 in two rooms", x.alone(), 1);
        x.set(LIMIT, 0);
        x.tie(20, 39, SHARES, 1);
        same("of 19, and a hub; of a hub alone", x.alone(), 1);
        x.tie(19, 20, SHARES, 1);
        same("of hubs alone; of all in one room, but hubs", x.alone(), 1);
        x.set(SHARES, 0);
        same("no hubs any more, all in room 0", x.alone(), 3);
        x.set(ROOMS, 6);
        x.put(39, 5);
        same("the last room", x.alone(), 2);
        x.set(ROOMS, 5);
        same("is no more", x.alone(), 3);
    }

    /** "KEPT is the DIVISION at some time". */
    private static void keptAtSomeTime() {
        CodeRooms x = Names.with(4);
        same("nothing is kept", x.moves(), -1);
        Names.divide(x, "0011");
        same("how many are in rooms", x.keep(), 4);
        Names.divide(x, "0001");
        same("one has moved", x.moves(), 1);
        same("asking changes nothing", x.moves(), 1);
        x.keep();
        same("kept anew", x.moves(), 0);
        Names.divide(x, "0011");
        same("one has moved back", x.moves(), 1);
        CodeRooms empty = new CodeRooms();
        same("of no routine", empty.keep(), 0);
        same("no routine moves", empty.moves(), 0);
        Names.add(empty, "late");
        same("one that came later", empty.moves(), 0);
    }

    /** "of all ways to number its ROOMS anew (0 to 5, no two alike) the least". */
    private static void numberedAnew() {
        CodeRooms x = Names.with(12);
        x.set(ROOMS, 6);
        Names.divide(x, "001122334455");
        x.keep();
        String[] alike = {"112233445500", "554433221100", "220011553344", "001122334455"};
        for (String division : alike) {
            Names.divide(x, division);
            same("numbered anew: " + division, x.moves(), 0);
        }
        Names.divide(x, "000000000000");
        same("no two alike: one room of two stays", x.moves(), 10);
        Names.divide(x, "000022224444");
        same("no two alike: three rooms stay", x.moves(), 6);
        Names.divide(x, "010123234545");
        same("each room torn: one of two stays", x.moves(), 6);
        x.set(ROOMS, 1);
        same("in one room now", x.moves(), 10);
        CodeRooms greedy = Names.with(10);
        greedy.set(ROOMS, 2);
        Names.divide(greedy, "0000000111");
        greedy.keep();
        Names.divide(greedy, "0000111000");
        same("4 and 0 stay, or 3 and 3", greedy.moves(), 4);
    }

    /** "ROUTINES that are no HUBS now, and were none then". */
    private static void hubsNowAndThen() {
        CodeRooms x = Names.with(5);
        x.tie(0, 1, SHARES, 1);
        Names.divide(x, "11000");
        x.keep();
        Names.divide(x, "10110");
        same("none were hubs: 1, 2 and 3, or 0 and 4", x.moves(), 2);
        x.set(LIMIT, 0);
        same("two are hubs now: 2 and 3, or 4", x.moves(), 1);
        same("three are in rooms", x.keep(), 3);
        x.set(LIMIT, 40);
        Names.divide(x, "11000");
        same("two were hubs: 4", x.moves(), 1);
        x.tie(4, 0, SHARES, 1);
        x.set(LIMIT, 1);
        same("one is a hub now", Names.division(x), "-1000");
        same("the others as before", x.moves(), 1);
    }
}
