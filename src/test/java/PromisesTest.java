/** Each promise of the document by ordinary inputs, its edges and wrong inputs. */
public final class PromisesTest {
    private static final int CALLS = 0;
    private static final int SHARES = 1;
    private static final int CHANGES = 2;
    private static final int EVEN = 3;
    private static final int LIMIT = 4;
    private static final int ROOMS = 5;

    private static Checks checks = new Checks("PromisesTest");

    private static void same(String what, long got, long want) {
        checks.same(what, got, want);
    }

    private static void same(String what, String got, String want) {
        checks.same(what, got, want);
    }

    public static void main(String[] args) {
        newObject();
        feed();
        routine();
        routineLimit();
        tie();
        ties();
        set();
        must();
        fix();
        hub();
        room();
        put();
        cost();
        better();
        betterOrder();
        hundredSteps();
        best();
        border();
        name();
        octet();
        face();
        ring();
        change();
        alone();
        keep();
        moves();
        count();
        checks.end();
    }

    /** Promise 1. */
    private static void newObject() {
        CodeRooms x = new CodeRooms();
        same("1: NONE", CodeRooms.NONE, -1);
        for (int what = 0; what <= 5; what++) {
            same("1: count of a new object", x.count(what), 0);
        }
        same("1: nothing is kept", x.moves(), -1);
        same("1: cost", x.cost(), 0);
        same("1: better", x.better(), 0);
        same("1: best", x.best(), 0);
        same("1: alone", x.alone(), 0);
        same("1: weight of calls", x.set(0, 1), 1);
        same("1: weight of shares", x.set(1, 1), 1);
        same("1: weight of changes", x.set(2, 1), 1);
        same("1: even", x.set(EVEN, 1), 1);
        same("1: limit", x.set(LIMIT, 40), 40);
        same("1: rooms", x.set(ROOMS, 2), 2);
        checks.outOfBounds("1: no routine", () -> x.room(0));
    }

    /** Promise 2. */
    private static void feed() {
        CodeRooms x = new CodeRooms();
        same("2: the first", x.feed(0x61626364, 0x65666768, 0x696a6b6c, 0x6d6e6f70, 0x71727374), 20);
        same("2: the second", x.feed(0x75000000, -1, 0, 0, 0), 40);
        same("2: a third", x.feed(0, 0, 0, 0, 0), -1);
        same("2: a third does nothing", x.count(3), 40);
        same("2: twenty bytes in their order", x.routine(20), 0);
        x.name(0);
        same("2: the highest byte first", Names.page(x), "abcdefghijklmnopqrst");
    }

    /** Promise 3. */
    private static void routine() {
        CodeRooms x = new CodeRooms();
        same("3: the first", Names.add(x, "read_page"), 0);
        same("3: the tape is empty then", x.count(3), 0);
        same("3: the second", Names.add(x, "read"), 1);
        same("3: one that is there", Names.add(x, "read"), -2);
        same("3: the tape is empty after it", x.count(3), 0);
        String[] wrong = {"", "A", "a1", "a b", "`", "{", "aZ", "\u00e1", "a-b", "@"};
        for (String text : wrong) {
            same("3: no name: " + text, Names.add(x, text), -1);
            same("3: the tape is empty after no name", x.count(3), 0);
        }
        same("3: an underscore alone", Names.add(x, "_"), 2);
        same("3: a and z", Names.add(x, "az"), 3);
        Names.feed(x, "abcdefghijklmnopqrst");
        Names.feed(x, "u");
        same("3: 21 bytes", x.routine(21), -1);
        Names.feed(x, "abcdefghijklmnopqrst");
        Names.feed(x, "u");
        same("3: 20 bytes of 40", x.routine(20), 4);
        checks.badArgument("3: more than the tape", () -> x.routine(1));
        checks.badArgument("3: below 0", () -> x.routine(-1));
        Names.feed(x, "q");
        checks.badArgument("3: 21 of 20", () -> x.routine(21));
        checks.badArgument("3: the greatest", () -> x.routine(Integer.MAX_VALUE));
        same("3: a throw leaves the tape", x.count(3), 20);
        same("3: a byte 0 is no letter", x.routine(2), -1);
        same("3: how many there are", x.count(0), 5);
    }

    private static void routineLimit() {
        CodeRooms x = Names.with(40);
        same("3: forty", x.count(0), 40);
        Names.feed(x, "zzz");
        checks.badState("3: one more than forty", () -> x.routine(3));
        checks.badState("3: one that is there", () -> x.routine(0));
        checks.badArgument("3: the argument is looked at first", () -> x.routine(21));
        same("3: a throw leaves the tape when full", x.count(3), 20);
    }

    /** Promise 4. */
    private static void tie() {
        CodeRooms x = Names.with(3);
        same("4: calls", x.tie(0, 1, CALLS, 10), 10);
        same("4: more calls", x.tie(0, 1, CALLS, 1000), 1010);
        same("4: calls have a direction", x.tie(1, 0, CALLS, 1), 1);
        same("4: shares", x.tie(0, 1, SHARES, 3), 3);
        same("4: shares have none", x.tie(1, 0, SHARES, 4), 7);
        same("4: changes", x.tie(2, 1, CHANGES, 5), 5);
        same("4: changes have none", x.tie(1, 2, CHANGES, 6), 11);
        checks.outOfBounds("4: no such first", () -> x.tie(3, 0, CALLS, 1));
        checks.outOfBounds("4: no such other", () -> x.tie(0, 3, CALLS, 1));
        checks.outOfBounds("4: below 0", () -> x.tie(-1, 0, CALLS, 1));
        checks.outOfBounds("4: both are one, of none", () -> x.tie(3, 3, CALLS, 1));
        checks.outOfBounds("4: no routine is looked at first", () -> x.tie(0, -1, 9, 0));
        checks.badArgument("4: both are one", () -> x.tie(1, 1, CALLS, 1));
        checks.badArgument("4: kind 3", () -> x.tie(0, 1, 3, 1));
        checks.badArgument("4: kind -1", () -> x.tie(0, 1, -1, 1));
        checks.badArgument("4: number 0", () -> x.tie(0, 1, CALLS, 0));
        checks.badArgument("4: number 1001", () -> x.tie(0, 1, CALLS, 1001));
        checks.badArgument("4: number below 0", () -> x.tie(0, 1, CALLS, -5));
        same("4: a throw tells nothing", x.ties(0, 1), 1010 + 1 + 7);
        for (int k = 0; k < 400; k++) {
            x.tie(0, 2, CALLS, 1000);
        }
        same("4: a great many", x.tie(0, 2, CALLS, 1), 400001);
    }

    /** Promise 5. */
    private static void ties() {
        CodeRooms x = Names.with(3);
        x.tie(0, 1, CALLS, 10);
        x.tie(1, 0, CALLS, 20);
        x.tie(0, 1, SHARES, 3);
        x.tie(1, 0, CHANGES, 5);
        same("5: all kinds", x.ties(0, 1), 38);
        same("5: the other way", x.ties(1, 0), 38);
        same("5: none", x.ties(0, 2), 0);
        x.set(CALLS, 2);
        x.set(SHARES, 9);
        x.set(CHANGES, 0);
        same("5: by weights", x.ties(0, 1), 2 * 30 + 9 * 3);
        same("5: by weights the other way", x.ties(1, 0), 87);
        checks.badArgument("5: both are one", () -> x.ties(2, 2));
        checks.outOfBounds("5: no such", () -> x.ties(0, 3));
        checks.outOfBounds("5: no such first", () -> x.ties(-1, 0));
        checks.outOfBounds("5: no such twice", () -> x.ties(7, 7));
    }

    /** Promise 6. */
    private static void set() {
        CodeRooms x = Names.with(2);
        int[] least = {0, 0, 0, 0, 0, 1};
        int[] most = {9, 9, 9, 100, 40, 6};
        int[] first = {1, 1, 1, 1, 40, 2};
        for (int k = 0; k < 6; k++) {
            int what = k;
            same("6: at first " + what, x.set(what, least[what]), first[what]);
            same("6: the least " + what, x.set(what, most[what]), least[what]);
            checks.badArgument("6: below the least " + what, () -> x.set(what, least[what] - 1));
            checks.badArgument("6: above the most " + what, () -> x.set(what, most[what] + 1));
            same("6: a throw sets nothing " + what, x.set(what, first[what]), most[what]);
        }
        checks.badArgument("6: what of 6", () -> x.set(6, 1));
        checks.badArgument("6: what of -1", () -> x.set(-1, 1));
        checks.badArgument("6: the least what", () -> x.set(Integer.MIN_VALUE, 1));
    }

    /** Promise 7. */
    private static void must() {
        CodeRooms x = Names.with(3);
        same("7: at first", x.must(0, 1, 1), 0);
        same("7: of both ways", x.must(1, 0, 2), 1);
        same("7: apart does not hold", x.count(5), 1);
        same("7: then none", x.must(0, 1, 0), 2);
        same("7: none holds", x.count(5), 0);
        x.must(0, 1, 1);
        same("7: together holds", x.count(5), 0);
        x.put(1, 1);
        same("7: together does not hold", x.count(5), 1);
        x.must(0, 1, 2);
        same("7: apart holds", x.count(5), 0);
        checks.badArgument("7: both are one", () -> x.must(0, 0, 1));
        checks.badArgument("7: must 3", () -> x.must(0, 1, 3));
        checks.badArgument("7: must -1", () -> x.must(0, 1, -1));
        checks.outOfBounds("7: no such", () -> x.must(0, 3, 1));
        checks.outOfBounds("7: no such first", () -> x.must(-1, 0, 9));
        same("7: a throw leaves it", x.must(0, 1, 2), 2);
    }

    /** Promise 8. */
    private static void fix() {
        CodeRooms x = Names.with(2);
        same("8: at first", x.fix(0, 5), -1);
        same("8: a room that is not there does not hold", x.count(5), 1);
        same("8: then another", x.fix(0, 0), 5);
        same("8: it holds", x.count(5), 0);
        x.put(0, 1);
        same("8: it does not", x.count(5), 1);
        same("8: none", x.fix(0, -1), 0);
        same("8: none holds", x.count(5), 0);
        checks.badArgument("8: room 6", () -> x.fix(0, 6));
        checks.badArgument("8: room -2", () -> x.fix(0, -2));
        checks.outOfBounds("8: no such", () -> x.fix(2, 0));
        checks.outOfBounds("8: no such, no room", () -> x.fix(-1, 9));
        same("8: a throw leaves it", x.fix(0, 1), -1);
    }

    /** Promise 9. */
    private static void hub() {
        CodeRooms x = Names.with(4);
        x.tie(0, 1, CALLS, 1);
        x.tie(2, 0, SHARES, 1);
        x.set(LIMIT, 2);
        checks.same("9: as many as the limit", x.hub(0), false);
        x.set(LIMIT, 1);
        checks.same("9: more than the limit", x.hub(0), true);
        checks.same("9: the others", x.hub(1), false);
        x.set(SHARES, 0);
        checks.same("9: a tie of 0 is none", x.hub(0), false);
        x.tie(3, 0, CALLS, 1);
        checks.same("9: called makes a hub, too", x.hub(0), true);
        x.set(LIMIT, 0);
        checks.same("9: limit 0", x.hub(1), true);
        checks.same("9: limit 0 of one without ties", x.hub(2), false);
        checks.outOfBounds("9: no such", () -> x.hub(4));
        checks.outOfBounds("9: below 0", () -> x.hub(-1));
    }

    /** Promise 10. */
    private static void room() {
        CodeRooms x = Names.with(3);
        x.set(ROOMS, 6);
        Names.divide(x, "352");
        same("10: rooms", Names.division(x), "352");
        x.set(ROOMS, 4);
        same("10: a room that is no more", Names.division(x), "302");
        x.set(ROOMS, 6);
        same("10: it does not come back", Names.division(x), "302");
        x.tie(0, 1, CALLS, 1);
        x.tie(0, 2, CALLS, 1);
        x.set(LIMIT, 1);
        same("10: a hub is in none", Names.division(x), "-02");
        x.set(LIMIT, 2);
        same("10: one that was a hub is in room 0", Names.division(x), "002");
        x.put(0, 4);
        x.set(LIMIT, 1);
        x.set(CALLS, 0);
        same("10: no hub by weights any more", Names.division(x), "002");
        Names.divide(x, "345");
        x.set(ROOMS, 1);
        same("10: one room", Names.division(x), "000");
        checks.outOfBounds("10: no such", () -> x.room(3));
        checks.outOfBounds("10: below 0", () -> x.room(-1));
    }

    /** Promise 11. */
    private static void put() {
        CodeRooms x = Names.with(3);
        same("11: where it was", x.put(1, 1), 0);
        same("11: then", x.put(1, 1), 1);
        same("11: it is there", Names.division(x), "010");
        checks.badArgument("11: room R", () -> x.put(1, 2));
        checks.badArgument("11: room -1", () -> x.put(1, -1));
        checks.outOfBounds("11: no such", () -> x.put(3, 0));
        checks.outOfBounds("11: no such, no room", () -> x.put(-1, 7));
        x.tie(0, 1, CALLS, 1);
        x.set(LIMIT, 0);
        same("11: a hub", x.put(0, 1), -1);
        checks.badArgument("11: a hub, no room", () -> x.put(0, 2));
        x.set(LIMIT, 40);
        same("11: nothing was done to a hub", x.room(0), 0);
    }

    /** Promise 12. */
    private static void cost() {
        CodeRooms x = Names.with(5);
        same("12: five in one room", x.cost(), 25);
        x.tie(0, 1, CALLS, 7);
        x.tie(0, 2, SHARES, 20);
        Names.divide(x, "01001");
        same("12: a tie between rooms", x.cost(), 9 + 4 + 7);
        x.set(EVEN, 0);
        same("12: without even", x.cost(), 7);
        x.set(EVEN, 100);
        same("12: even of 100", x.cost(), 1307);
        x.must(0, 1, 1);
        x.must(3, 2, 2);
        x.must(0, 4, 2);
        x.fix(0, 1);
        x.fix(4, 1);
        same("12: musts", x.cost(), 3_001_307);
        x.set(LIMIT, 1);
        same("12: without the hub and its musts", Names.division(x), "-1001");
        same("12: of a hub nothing counts", x.cost(), 100 * (4 + 4) + 1_000_000);
        same("12: fixed to a room that is not", x.fix(1, 4), -1);
        same("12: does not hold", x.cost(), 2_000_800);
    }

    /** Promise 13. */
    private static void better() {
        CodeRooms x = Names.with(4);
        x.set(EVEN, 2);
        x.tie(0, 1, CALLS, 17);
        x.tie(2, 3, SHARES, 9);
        x.tie(1, 2, CHANGES, 3);
        same("13: steps", x.better(), 2);
        same("13: the division", Names.division(x), "0011");
        same("13: no more", x.better(), 0);
        x.fix(0, 1);
        x.must(0, 3, 2);
        int steps = x.better();
        same("13: by musts", x.count(5), 0);
        same("13: some steps", steps > 0 ? 1 : 0, 1);
        x.set(ROOMS, 1);
        same("13: in one room nothing moves", x.better(), 0);

        CodeRooms hubs = Names.with(3);
        hubs.set(EVEN, 100);
        hubs.tie(0, 1, CALLS, 1);
        hubs.tie(0, 2, CALLS, 1);
        hubs.set(LIMIT, 1);
        same("13: hubs stay out", hubs.better(), 1);
        same("13: and the others move", Names.division(hubs), "-10");
        swapSteps();
    }

    private static void swapSteps() {
        CodeRooms x = Names.with(4);
        x.set(EVEN, 100);
        x.tie(0, 2, CALLS, 5);
        x.tie(1, 3, CALLS, 5);
        Names.divide(x, "0011");
        same("13: a swap is one step", x.better(), 1);
        same("13: of the least routines", Names.division(x), "1010");
        same("13: and no tie is left", x.cost(), 800);

        CodeRooms torn = Names.with(4);
        torn.set(EVEN, 100);
        torn.tie(2, 3, CALLS, 50);
        torn.tie(0, 2, CALLS, 5);
        torn.tie(0, 1, CALLS, 20);
        Names.divide(torn, "0011");
        same("13: a swap that tears more than it joins", torn.better(), 0);
    }

    /**
     * Four times a chain follows its head from room to room, a routine a step. The head follows the strongest puller,
     * and the puller of the next room can only come when the stopper there has gone to the chain's tail.
     */
    private static void hundredSteps() {
        int chain = 27;
        int pullers = chain;
        int stoppers = pullers + 4;
        int guards = stoppers + 3;
        CodeRooms x = Names.with(guards + 6);
        x.set(EVEN, 0);
        x.set(ROOMS, 6);
        for (int i = 0; i + 1 < chain; i++) {
            x.tie(i, i + 1, SHARES, 100 - i);
        }
        for (int room = 0; room < 6; room++) {
            x.fix(guards + room, room);
            x.put(guards + room, room);
        }
        x.must(0, guards + 5, 2);
        for (int room = 1; room <= 4; room++) {
            int puller = pullers + room - 1;
            x.tie(0, puller, SHARES, 150 * room);
            x.fix(puller, room);
            x.put(puller, room == 1 ? 1 : 5);
            if (room > 1) {
                int stopper = stoppers + room - 2;
                x.tie(chain - 1, stopper, SHARES, 60);
                x.put(stopper, room);
                x.must(puller, stopper, 2);
                keepOut(x, puller, guards, room, 5);
                keepOut(x, stopper, guards, room, room - 1);
            }
        }
        same("13: a hundred steps at most", x.better(), 100);
        same("13: the chain is on its last way", x.room(0), 4);
        same("13: its tail is not there yet", x.room(chain - 1), 3);
        same("13: the rest", x.better(), 4 * chain + 2 * 3 - 100);
        same("13: the tail is there", x.room(chain - 1), 4);
    }

    private static void keepOut(CodeRooms x, int routine, int guards, int room, int otherRoom) {
        for (int k = 0; k < 6; k++) {
            if (k != room && k != otherRoom) {
                x.must(routine, guards + k, 2);
            }
        }
    }

    private static void betterOrder() {
        CodeRooms least = Names.with(3);
        least.set(ROOMS, 3);
        least.set(EVEN, 1);
        least.tie(0, 1, CALLS, 2);
        same("13: one step", least.better(), 1);
        same("13: the greatest gain, then the least room", Names.division(least), "001");

        CodeRooms alike = Names.with(2);
        alike.set(ROOMS, 6);
        same("13: alike moves", alike.better(), 1);
        same("13: the least routine to the least room", Names.division(alike), "10");

        CodeRooms moveFirst = Names.with(2);
        moveFirst.set(EVEN, 0);
        moveFirst.fix(0, 1);
        moveFirst.put(1, 1);
        same("13: a move ahead of a swap that is alike", moveFirst.better(), 1);
        same("13: only the one moved", Names.division(moveFirst), "11");

        CodeRooms many = Names.with(40);
        many.set(EVEN, 0);
        many.set(ROOMS, 6);
        for (int i = 0; i < 40; i++) {
            many.fix(i, 1 + i % 5);
        }
        same("13: forty steps", many.better(), 40);
        same("13: all musts hold", many.count(5), 0);
    }

    /** Promise 14. */
    private static void best() {
        CodeRooms x = Names.with(9);
        x.set(ROOMS, 3);
        same("14: nine in three rooms", x.best(), 27);
        same("14: the first of the best", Names.division(x), "000111222");
        x.fix(0, 2);
        x.must(1, 2, 2);
        x.must(0, 3, 1);
        same("14: by musts", x.best(), 27);
        same("14: the first of those", Names.division(x), "201200112");
        x.set(EVEN, 0);
        x.fix(0, -1);
        x.must(1, 2, 0);
        same("14: for nothing", x.best(), 0);
        same("14: all in room 0", Names.division(x), "000000000");
        x.set(ROOMS, 4);
        x.put(3, 3);
        same("14: four rooms", x.best(), -1);
        same("14: nothing changes", Names.division(x), "000300000");
        x.set(ROOMS, 3);
        Names.divide(x, "012012012");
        Names.add(x, "tenth");
        same("14: ten routines", x.best(), -1);
        same("14: nothing changes with ten", Names.division(x), "0120120120");
        x.tie(9, 0, CALLS, 1);
        x.tie(9, 1, CALLS, 1);
        x.set(LIMIT, 1);
        same("14: ten, one of them a hub", x.best(), 0);
        same("14: the hub stays out", Names.division(x), "000000000-");
        x.set(ROOMS, 1);
        x.set(EVEN, 2);
        same("14: one room", x.best(), 162);
        CodeRooms torn = Names.with(2);
        torn.must(0, 1, 1);
        torn.fix(0, 0);
        torn.fix(1, 1);
        same("14: what can't all hold", torn.best(), 1_000_002);
        same("14: the first of what can't", Names.division(torn), "01");
    }

    /** Promise 15. */
    private static void border() {
        CodeRooms x = Names.with(4);
        x.tie(0, 1, CALLS, 17);
        x.tie(1, 2, SHARES, 3);
        same("15: with a tie", x.border(0), 17 + 10 - 16);
        same("15: without one", x.border(3), -6);
        x.set(ROOMS, 3);
        Names.divide(x, "0122");
        same("15: to the best of two", x.border(0), -17 + (4 + 4) - 6);
        x.must(0, 3, 1);
        same("15: a must that would hold", x.border(0), 4 - 1_000_000);
        x.fix(0, 0);
        x.must(0, 3, 0);
        same("15: a must that would not", x.border(0), 1_000_000 - 15);
        same("15: nothing moves", Names.division(x), "0122");
        x.set(LIMIT, 1);
        same("15: a hub", x.border(1), 1_000_000_000);
        x.set(LIMIT, 40);
        x.set(ROOMS, 1);
        same("15: one room", x.border(0), 1_000_000_000);
        checks.outOfBounds("15: no such", () -> x.border(4));
        checks.outOfBounds("15: below 0", () -> x.border(-1));
    }

    /** Promise 16. */
    private static void name() {
        CodeRooms x = Names.with("read_page", "write_page", "read_key", "hash_key");
        Names.divide(x, "0011");
        same("16: room 0", Names.nameOf(x, 0), "page");
        same("16: room 1", Names.nameOf(x, 1), "key");
        Names.divide(x, "0101");
        same("16: the other way", Names.nameOf(x, 0), "read");
        same("16: of words alike the first", Names.nameOf(x, 1), "hash");
        Names.divide(x, "0000");
        same("16: with none outside the first by letters", Names.nameOf(x, 0), "hash");
        same("16: an empty room", x.name(1), 0);
        same("16: the page is empty then", x.count(4), 0);
        checks.badArgument("16: room R", () -> x.name(2));
        checks.badArgument("16: room -1", () -> x.name(-1));

        CodeRooms y = Names.with("__", "pages", "page_x__x", "_page", "z_a");
        Names.divide(y, "10001");
        same("16: one that begins another is ahead", Names.nameOf(y, 0), "page");
        Names.divide(y, "11110");
        same("16: a word alone", Names.nameOf(y, 0), "a");
        Names.divide(y, "10000");
        same("16: no word", y.name(1), 0);
        y.tie(4, 1, CALLS, 1);
        y.tie(4, 2, CALLS, 1);
        y.set(LIMIT, 1);
        Names.divide(y, "1010-");
        same("16: a hub's words are in no room", Names.nameOf(y, 0), "pages");

        CodeRooms z = Names.with("b_b_b", "a", "a_c", "d");
        Names.divide(z, "0011");
        same("16: a word counts once for a routine", Names.nameOf(z, 0), "b");
        CodeRooms w = Names.with("p_q", "p", "z", "p_o", "o");
        Names.divide(w, "00011");
        same("16: by how many have it there, and here", Names.nameOf(w, 0), "q");
        same("16: an empty word is none", Names.nameOf(Names.with("_y"), 0), "y");
        z.name(1);
        checks.badArgument("16: a throw", () -> z.name(5));
        same("16: leaves the page", Names.page(z), "c");
    }

    /** Promise 17. */
    private static void octet() {
        CodeRooms x = Names.with("abcdefghijklmnopqrst");
        same("17: an empty page", x.octet(0), -1);
        same("17: a long word", x.name(0), 20);
        same("17: the first", x.octet(0), 'a');
        same("17: the last", x.octet(19), 't');
        same("17: behind it", x.octet(20), -1);
        same("17: ahead of it", x.octet(-1), -1);
        same("17: far off", x.octet(Integer.MAX_VALUE), -1);
        same("17: far off below", x.octet(Integer.MIN_VALUE), -1);
    }

    /** Promise 18. */
    private static void face() {
        CodeRooms x = Names.with(6);
        Names.divide(x, "000111");
        x.tie(0, 1, CALLS, 1);
        same("18: a call inside", x.face(0, 0), -1);
        x.tie(3, 2, CALLS, 1);
        x.tie(4, 0, CALLS, 1);
        x.tie(5, 1, SHARES, 1);
        x.tie(5, 1, CHANGES, 1);
        same("18: the first", x.face(0, 0), 0);
        same("18: the second", x.face(0, 1), 2);
        same("18: no more", x.face(0, 2), -1);
        same("18: below 0", x.face(0, -1), -1);
        same("18: the caller's room", x.face(1, 0), -1);
        x.set(CALLS, 0);
        same("18: calls of no weight are calls", x.face(0, 1), 2);
        x.set(CALLS, 1);
        x.tie(3, 5, CALLS, 1);
        x.set(LIMIT, 1);
        same("18: hubs", Names.division(x), "-" + "-0-1-");
        same("18: a hub calls from outside", x.face(0, 0), 2);
        same("18: hubs are of no face", x.face(0, 1), -1);
        checks.badArgument("18: room R", () -> x.face(2, 0));
        checks.badArgument("18: room -1", () -> x.face(-1, 0));
    }

    /** Promise 19. */
    private static void ring() {
        CodeRooms x = Names.with(7);
        x.set(ROOMS, 6);
        Names.divide(x, "0123450");
        same("19: itself always", x.ring(3), 8);
        x.tie(0, 1, CALLS, 1);
        same("19: there, not back", x.ring(0), 1);
        x.tie(1, 2, CALLS, 1);
        x.tie(2, 0, SHARES, 1);
        same("19: shares do not lead", x.ring(0), 1);
        x.tie(2, 6, CALLS, 1);
        same("19: over others", x.ring(0), 7);
        same("19: of each", x.ring(2), 7);
        x.tie(2, 3, CALLS, 1);
        same("19: one it only leads to", x.ring(1), 7);
        x.tie(3, 4, CALLS, 1);
        x.tie(4, 5, CALLS, 1);
        x.tie(5, 0, CALLS, 1);
        same("19: all", x.ring(4), 63);
        x.set(LIMIT, 3);
        checks.same("19: a hub", x.hub(2), true);
        same("19: over a hub nothing leads", x.ring(0), 1);
        same("19: an empty room", x.ring(2), 4);
        x.set(ROOMS, 2);
        checks.badArgument("19: room R", () -> x.ring(2));
        checks.badArgument("19: room -1", () -> x.ring(-1));
    }

    /** Promise 20. */
    private static void change() {
        CodeRooms x = Names.with(22);
        same("20: the first", x.change(0xFFFFF, 3), 1);
        same("20: of none", x.change(0, 0), 2);
        checks.badArgument("20: no routine 22", () -> x.change(0, 4));
        checks.badArgument("20: bit 20", () -> x.change(1 << 20, 0));
        checks.badArgument("20: bit 20 of the second", () -> x.change(0, 1 << 20));
        checks.badArgument("20: bit 31", () -> x.change(Integer.MIN_VALUE, 0));
        checks.badArgument("20: bit 31 of the second", () -> x.change(0, -1));
        same("20: a throw adds none", x.count(2), 2);
        for (int k = 3; k <= 60; k++) {
            same("20: one more", x.change(1, 0), k);
        }
        same("20: there are 60", x.change(1, 0), -1);
        checks.badArgument("20: bits are looked at first", () -> x.change(0, 4));
        same("20: still 60", x.count(2), 60);
        CodeRooms few = Names.with(3);
        checks.badArgument("20: no routine 3", () -> few.change(8, 0));
        same("20: routines 0 to 2", few.change(7, 0), 1);
        CodeRooms none = new CodeRooms();
        checks.badArgument("20: no routine 0", () -> none.change(1, 0));
        same("20: none of none", none.change(0, 0), 1);
        CodeRooms all = Names.with(40);
        same("20: all forty", all.change(0xFFFFF, 0xFFFFF), 1);
    }

    /** Promise 21. */
    private static void alone() {
        CodeRooms x = Names.with(22);
        x.change(3, 0);
        x.change(1, 2);
        x.change(0, 3);
        x.change(0, 0);
        same("21: all in one room", x.alone(), 3);
        x.put(21, 1);
        same("21: one in another", x.alone(), 1);
        x.put(0, 1);
        same("21: two in another", x.alone(), 1);
        x.put(1, 1);
        same("21: three in another", x.alone(), 2);
        x.tie(20, 5, CALLS, 1);
        x.tie(20, 6, CALLS, 1);
        x.set(LIMIT, 1);
        same("21: but hubs", x.alone(), 3);
        x.change(0, 1);
        same("21: hubs alone are not alone", x.alone(), 3);
        same("21: it is counted as a change", x.count(2), 5);
        while (x.change(1, 0) != -1) {
            x.change(0, 0);
        }
        same("21: of sixty", x.alone(), 3 + 28);
    }

    /** Promise 22. */
    private static void keep() {
        CodeRooms x = Names.with(4);
        same("22: all", x.keep(), 4);
        same("22: kept", x.moves(), 0);
        x.tie(0, 1, CALLS, 1);
        x.tie(0, 2, CALLS, 1);
        x.set(LIMIT, 1);
        same("22: but hubs", x.keep(), 3);
        Names.divide(x, "-011");
        same("22: one moved of those", x.moves(), 1);
        x.keep();
        same("22: kept anew", x.moves(), 0);
        same("22: none", new CodeRooms().keep(), 0);
    }

    /** Promise 23. */
    private static void moves() {
        CodeRooms x = Names.with(6);
        same("23: nothing kept", x.moves(), -1);
        x.set(ROOMS, 3);
        Names.divide(x, "001122");
        x.keep();
        Names.divide(x, "220011");
        same("23: numbered anew", x.moves(), 0);
        Names.divide(x, "220010");
        same("23: one", x.moves(), 1);
        Names.divide(x, "000000");
        same("23: all in one", x.moves(), 4);
        x.set(ROOMS, 6);
        Names.divide(x, "012345");
        same("23: each alone", x.moves(), 3);
        Names.divide(x, "554433");
        same("23: other rooms", x.moves(), 0);
        Names.add(x, "later");
        x.put(6, 5);
        same("23: one that was not there then", x.moves(), 0);
        x.tie(0, 1, CALLS, 1);
        x.tie(0, 2, CALLS, 1);
        Names.divide(x, "012234");
        same("23: two", x.moves(), 2);
        x.set(LIMIT, 1);
        same("23: a hub now", x.moves(), 1);
        x.keep();
        x.set(LIMIT, 40);
        x.put(0, 2);
        same("23: a hub then", x.moves(), 0);
        x.keep();
        x.set(ROOMS, 1);
        same("23: kept rooms that are no more", x.moves(), 7 - 3);
    }

    /** Promise 24. */
    private static void count() {
        CodeRooms x = Names.with("one", "two", "three");
        x.tie(0, 1, CALLS, 1);
        x.set(LIMIT, 0);
        x.change(7, 0);
        x.must(0, 2, 2);
        x.must(0, 1, 2);
        x.fix(2, 1);
        x.fix(1, 1);
        Names.feed(x, "q");
        x.name(0);
        same("24: routines", x.count(0), 3);
        same("24: hubs", x.count(1), 2);
        same("24: changes", x.count(2), 1);
        same("24: the tape", x.count(3), 20);
        same("24: the page", x.count(4), 5);
        same("24: musts of those in rooms", x.count(5), 1);
        x.set(LIMIT, 1);
        same("24: all musts", x.count(5), 4);
        same("24: no hubs", x.count(1), 0);
        same("24: below", x.count(-1), -1);
        same("24: above", x.count(6), -1);
        same("24: far above", x.count(Integer.MAX_VALUE), -1);
    }
}
