/**
 * Each call that the document refuses, by an exception or by an answer, is refused at its very boundary and changes
 * nothing that can be asked; and what the promises say of empty, full and far numbers.
 */
public final class RefusalsTest {
    private static final int LEAST = Integer.MIN_VALUE;
    private static final int MOST = Integer.MAX_VALUE;
    private static final int HUB = 3;

    /** A call on the object that is given. */
    private interface Asked {
        Object of(CodeRooms rooms);
    }

    private static final Checks checks = new Checks("RefusalsTest");

    public static void main(String[] args) {
        feed();
        tapeInParts();
        bytesOfNumbers();
        routine();
        routineWhenFull();
        takenNames();
        tie();
        ties();
        set();
        must();
        fix();
        ofOneRoutine();
        put();
        best();
        ofOneRoom();
        faceNumbers();
        octet();
        change();
        changeBits();
        moves();
        count();
        asking();
        lastOfAllCalls();
        checks.end();
    }

    /** Five routines, one of them a hub, with something of all there is: tape, page, musts, fixes, changes, kept. */
    private static CodeRooms furnished() {
        CodeRooms x = Names.with("read_page", "write_page", "read_key", "hub", "hash_key");
        x.tie(0, 1, 0, 7);
        x.tie(2, 4, 1, 5);
        x.tie(3, 0, 0, 1);
        x.tie(3, 1, 2, 1);
        x.tie(2, 3, 0, 1);
        x.set(0, 3);
        x.set(3, 2);
        x.set(4, 2);
        x.set(5, 3);
        Names.divide(x, "001-2");
        x.must(0, 2, 1);
        x.must(1, 4, 2);
        x.fix(4, 5);
        x.fix(0, 0);
        x.change(3, 0);
        x.change(20, 0);
        x.keep();
        x.put(1, 1);
        x.name(0);
        Names.feed(x, "tape");
        return x;
    }

    private static void refused(String what, Asked call, String answer) {
        refusedBy(furnished(), what, call, answer);
    }

    private static void refusedBy(CodeRooms x, String what, Asked call, String answer) {
        String before = Snapshot.of(x);
        checks.same(what, Checks.answerOf(() -> call.of(x)), answer);
        checks.same(what + ", and nothing changes", Snapshot.of(x), before);
    }

    private static void badArgument(String what, Asked call) {
        refused(what, call, "throws.IllegalArgumentException");
    }

    private static void outOfBounds(String what, Asked call) {
        refused(what, call, "throws.IndexOutOfBoundsException");
    }

    /** Promise 2: "NONE, doing nothing, if there would be more than 40". */
    private static void feed() {
        CodeRooms x = new CodeRooms();
        checks.same("2: to 20", x.feed(0, 0, 0, 0, 0), 20);
        checks.same("2: to 40", x.feed(LEAST, MOST, -1, 1, 0), 40);
        refusedBy(x, "2: to 60", y -> y.feed(0, 0, 0, 0, 0), "-1");
        CodeRooms names = new CodeRooms();
        Names.feed(names, "abcdefghijklmnopqrst");
        Names.feed(names, "uvwxyz");
        Names.feed(names, "no");
        checks.same("2: what is refused does not push out the first", names.routine(20), 0);
        names.name(0);
        checks.same("2: the first twenty", Names.page(names), "abcdefghijklmnopqrst");
        checks.same("2: an empty tape takes twenty again", names.feed(0, 0, 0, 0, 0), 20);
    }

    /** Promise 3: "The first n bytes of the TAPE (empty then)": what is behind them goes, too. */
    private static void tapeInParts() {
        CodeRooms x = new CodeRooms();
        Names.feed(x, "abcdef");
        checks.same("3: the first 3 of 20", x.routine(3), 0);
        x.name(0);
        checks.same("3: those three", Names.page(x), "abc");
        checks.same("3: the tape is empty", x.count(3), 0);
        checks.same("3: of an empty tape 0 bytes are no name", x.routine(0), -1);
        Names.feed(x, "xy");
        checks.same("3: a tape starts anew", x.routine(2), 1);
        x.put(0, 1);
        x.name(0);
        checks.same("3: with what came then", Names.page(x), "xy");
        Names.feed(x, "bcdefghijklmnopqrstu");
        Names.feed(x, "v");
        checks.same("3: 0 of 40 are no name", x.routine(0), -1);
        checks.same("3: and the tape is empty", x.count(3), 0);
    }

    /** Promise 2: "of each number the highest first": each of the twenty bytes stands at its place. */
    private static void bytesOfNumbers() {
        for (int place = 0; place < 20; place++) {
            CodeRooms x = new CodeRooms();
            int[] n = new int[5];
            for (int k = 0; k < 20; k++) {
                n[k / 4] |= (k == place ? 'b' : 'a') << 24 - 8 * (k % 4);
            }
            x.feed(n[0], n[1], n[2], n[3], n[4]);
            x.routine(20);
            x.name(0);
            for (int k = 0; k < 20; k++) {
                checks.same("2: byte " + k + " with b at " + place, x.octet(k), k == place ? 'b' : 'a');
            }
        }
    }

    /** Promise 3: "IllegalArgumentException: n is not 0 to the TAPE's bytes". */
    private static void routine() {
        int[] wrong = {-1, 21, 40, LEAST, MOST};
        for (int n : wrong) {
            badArgument("3: " + n + " of 20 bytes", x -> x.routine(n));
        }
        CodeRooms empty = new CodeRooms();
        refusedBy(empty, "3: 1 of no bytes", x -> x.routine(1), "throws.IllegalArgumentException");
        CodeRooms full = new CodeRooms();
        Names.feed(full, "a");
        Names.feed(full, "a");
        refusedBy(full, "3: 41 of 40 bytes", x -> x.routine(41), "throws.IllegalArgumentException");
        checks.same("3: 40 of 40 bytes are looked at", full.routine(40), -1);
    }

    /** Promise 3: "IllegalStateException: there are 40". */
    private static void routineWhenFull() {
        CodeRooms x = Names.with(39);
        checks.same("3: the fortieth", Names.add(x, "fortieth"), 39);
        Names.feed(x, "a");
        checks.badState("3: a name that is there", () -> x.routine(1));
        checks.badState("3: a new name", () -> x.routine(2));
        checks.badState("3: no name", () -> x.routine(0));
        checks.badState("3: a name too long", () -> x.routine(20));
        checks.badArgument("3: more than the tape", () -> x.routine(21));
        checks.badArgument("3: below 0", () -> x.routine(-1));
        checks.same("3: the tape stays", x.count(3), 20);
        checks.same("3: forty stay", x.count(0), 40);
        checks.same("3: the tape takes more", x.feed(0, 0, 0, 0, 0), 40);
    }

    /** Promise 3: "-2: another one has it": each of them may, and a beginning of one is another name. */
    private static void takenNames() {
        String[] names = {"a", "ab", "b", "_", "a_b", "abcdefghijklmnopqrst", "abcdefghijklmnopqrs"};
        CodeRooms x = Names.with(names);
        checks.same("3: all are new", x.count(0), names.length);
        for (String name : names) {
            checks.same("3: taken: " + name, Names.add(x, name), -2);
            checks.same("3: the tape is empty then", x.count(3), 0);
        }
        checks.same("3: none came", x.count(0), names.length);
        checks.same("3: the next number", Names.add(x, "c"), names.length);
    }

    private static final int[] NO_ROUTINES = {-1, 5, 39, 40, LEAST, MOST};

    /** Promise 4: "no such ROUTINE (so below)", "both are one, no such KIND, or the number". */
    private static void tie() {
        for (int i : NO_ROUTINES) {
            outOfBounds("4: first " + i, x -> x.tie(i, 0, 0, 1));
            outOfBounds("4: other " + i, x -> x.tie(0, i, 0, 1));
            outOfBounds("4: both " + i, x -> x.tie(i, i, 0, 1));
        }
        int[] kinds = {-1, 3, LEAST, MOST};
        for (int kind : kinds) {
            badArgument("4: kind " + kind, x -> x.tie(0, 1, kind, 1));
        }
        int[] numbers = {0, -1, 1001, LEAST, MOST};
        for (int number : numbers) {
            badArgument("4: number " + number, x -> x.tie(0, 1, 2, number));
        }
        badArgument("4: both are one", x -> x.tie(4, 4, 0, 1));
        badArgument("4: both are a hub", x -> x.tie(HUB, HUB, 0, 1));
        outOfBounds("4: no routine, and all else wrong", x -> x.tie(0, 5, 3, 0));
    }

    /** Promise 5. */
    private static void ties() {
        for (int i : NO_ROUTINES) {
            outOfBounds("5: first " + i, x -> x.ties(i, 0));
            outOfBounds("5: other " + i, x -> x.ties(0, i));
            outOfBounds("5: both " + i, x -> x.ties(i, i));
        }
        badArgument("5: both are one", x -> x.ties(0, 0));
        CodeRooms none = new CodeRooms();
        checks.outOfBounds("5: of no routine", () -> none.ties(0, 0));
    }

    /** Promise 6: "another what, or v is none such". */
    private static void set() {
        int[] least = {0, 0, 0, 0, 0, 1};
        int[] most = {9, 9, 9, 100, 40, 6};
        for (int k = 0; k < 6; k++) {
            int what = k;
            int[] wrong = {least[what] - 1, most[what] + 1, LEAST, MOST};
            for (int v : wrong) {
                badArgument("6: " + what + " is " + v, x -> x.set(what, v));
            }
        }
        int[] others = {-1, 6, LEAST, MOST};
        for (int what : others) {
            badArgument("6: what of " + what, x -> x.set(what, 1));
        }
    }

    /** Promise 7: "both are one, or another must". */
    private static void must() {
        for (int i : NO_ROUTINES) {
            outOfBounds("7: first " + i, x -> x.must(i, 0, 1));
            outOfBounds("7: other " + i, x -> x.must(0, i, 1));
            outOfBounds("7: both " + i, x -> x.must(i, i, 3));
        }
        int[] wrong = {-1, 3, LEAST, MOST};
        for (int must : wrong) {
            badArgument("7: must " + must, x -> x.must(0, 1, must));
        }
        for (int m = 0; m <= 2; m++) {
            int must = m;
            badArgument("7: both are one, " + must, x -> x.must(1, 1, must));
        }
    }

    /** Promise 8: "a ROOM (0 to 5), or NONE": whatever R is. */
    private static void fix() {
        for (int i : NO_ROUTINES) {
            outOfBounds("8: " + i, x -> x.fix(i, 0));
            outOfBounds("8: no routine, no room " + i, x -> x.fix(i, 6));
        }
        int[] wrong = {-2, 6, LEAST, MOST};
        for (int room : wrong) {
            badArgument("8: room " + room, x -> x.fix(0, room));
        }
        CodeRooms x = Names.with(1);
        x.set(5, 1);
        int was = -1;
        for (int room = 0; room <= 5; room++) {
            checks.same("8: with R of 1, room " + room, x.fix(0, room), was);
            checks.same("8: which holds for room 0 alone", x.count(5), room == 0 ? 0 : 1);
            was = room;
        }
        checks.same("8: none again", x.fix(0, -1), 5);
        checks.same("8: it was none", x.fix(0, -1), -1);
    }

    /** Promises 9, 10 and 15: "no such ROUTINE". */
    private static void ofOneRoutine() {
        for (int i : NO_ROUTINES) {
            outOfBounds("9: " + i, x -> x.hub(i));
            outOfBounds("10: " + i, x -> x.room(i));
            outOfBounds("15: " + i, x -> x.border(i));
        }
        CodeRooms none = new CodeRooms();
        checks.outOfBounds("9: of no routine", () -> none.hub(0));
        checks.outOfBounds("10: of no routine", () -> none.room(0));
        checks.outOfBounds("15: of no routine", () -> none.border(0));
        none.set(5, 1);
        checks.outOfBounds("15: of no routine with R of 1", () -> none.border(0));
    }

    /** Promise 11: "NONE, doing nothing: it is a HUB", "it is not 0 to R - 1". */
    private static void put() {
        for (int i : NO_ROUTINES) {
            outOfBounds("11: " + i, x -> x.put(i, 0));
            outOfBounds("11: no routine, no room " + i, x -> x.put(i, 3));
        }
        int[] wrong = {-1, 3, 5, 6, LEAST, MOST};
        for (int room : wrong) {
            badArgument("11: room " + room, x -> x.put(1, room));
            badArgument("11: a hub, room " + room, x -> x.put(HUB, room));
        }
        for (int k = 0; k < 3; k++) {
            int room = k;
            refused("11: a hub into " + room, x -> x.put(HUB, room), "-1");
        }
        CodeRooms x = furnished();
        x.put(HUB, 2);
        x.set(4, 40);
        checks.same("11: it is in room 0 when it is none any more", x.room(HUB), 0);
    }

    /** Promise 14: "NONE, and nothing changes: it isn't told". */
    private static void best() {
        for (int rooms = 4; rooms <= 6; rooms++) {
            CodeRooms x = furnished();
            x.set(5, rooms);
            x.put(0, rooms - 1);
            refusedBy(x, "14: " + rooms + " rooms", y -> y.best(), "-1");
        }
        CodeRooms ten = Names.with(10);
        Names.divide(ten, "0110100101");
        refusedBy(ten, "14: ten routines", x -> x.best(), "-1");
    }

    /** Promises 16, 18 and 19: "it is not 0 to R - 1 (so below)". */
    private static void ofOneRoom() {
        int[] wrong = {-1, 3, 5, 6, LEAST, MOST};
        for (int room : wrong) {
            badArgument("16: room " + room, x -> x.name(room));
            badArgument("18: room " + room, x -> x.face(room, 0));
            badArgument("18: no room, no k, " + room, x -> x.face(room, -1));
            badArgument("19: room " + room, x -> x.ring(room));
        }
        CodeRooms none = new CodeRooms();
        checks.same("16: of no routine", none.name(1), 0);
        checks.same("18: of no routine", none.face(1, 0), -1);
        checks.same("19: of no routine", none.ring(1), 2);
        checks.badArgument("16: of no routine, no room", () -> none.name(2));
        checks.badArgument("18: of no routine, no room", () -> none.face(2, 0));
        checks.badArgument("19: of no routine, no room", () -> none.ring(2));
    }

    /** Promise 18: "The k-th ROUTINE of the FACE of a ROOM; NONE". */
    private static void faceNumbers() {
        CodeRooms x = Names.with(4);
        x.tie(3, 0, 0, 1);
        x.tie(3, 2, 0, 1);
        x.put(3, 1);
        int[] none = {-1, 2, 3, 40, LEAST, MOST};
        for (int k : none) {
            checks.same("18: k of " + k, x.face(0, k), -1);
        }
        checks.same("18: the first", x.face(0, 0), 0);
        checks.same("18: the last", x.face(0, 1), 2);
    }

    /** Promise 17: "Byte k of the PAGE; NONE". */
    private static void octet() {
        CodeRooms x = Names.with("abc", "de");
        checks.same("17: ahead of all names", x.octet(0), -1);
        x.put(1, 1);
        x.name(0);
        int[] none = {-1, 3, 20, LEAST, MOST};
        for (int k : none) {
            checks.same("17: k of " + k, x.octet(k), -1);
        }
        checks.same("17: the last", x.octet(2), 'c');
        x.name(1);
        checks.same("17: a shorter page", x.octet(1), 'e');
        checks.same("17: has no more of the longer one", x.octet(2), -1);
        x.put(1, 0);
        x.name(1);
        checks.same("17: an empty page", x.octet(0), -1);
        x.name(0);
        x.put(0, 1);
        checks.same("17: a page stays when rooms change", x.octet(0), 'a');
    }

    /** Promise 20: "-1: there are 60", "bits tell no ROUTINE". */
    private static void change() {
        int[] wrong = {1 << 5, 1 << 19, 1 << 20, LEAST, MOST, -1, 1 | 1 << 5, 31 | 1 << 20};
        for (int bits : wrong) {
            badArgument("20: low " + bits, x -> x.change(bits, 0));
        }
        int[] wrongHigh = {1, 1 << 19, 1 << 20, LEAST, MOST, -1};
        for (int bits : wrongHigh) {
            badArgument("20: high " + bits, x -> x.change(1, bits));
            badArgument("20: high alone " + bits, x -> x.change(0, bits));
        }
        CodeRooms full = furnished();
        for (int k = 3; k <= 60; k++) {
            checks.same("20: number " + k, full.change(k & 31, 0), k);
        }
        refusedBy(full, "20: one more than 60", x -> x.change(1, 0), "-1");
        CodeRooms fuller = Names.with(1);
        while (fuller.count(2) < 60) {
            fuller.change(1, 0);
        }
        refusedBy(fuller, "20: none more than 60", x -> x.change(0, 0), "-1");
        refusedBy(fuller, "20: wrong bits with 60", x -> x.change(2, 0), "throws.IllegalArgumentException");
    }

    /** Promise 20: "0 to 19 by the first one's bits, 20 to 39 by the second's": each bit with one routine too few. */
    private static void changeBits() {
        CodeRooms x = new CodeRooms();
        for (int i = 0; i < 40; i++) {
            int low = i < 20 ? 1 << i : 0;
            int high = i < 20 ? 0 : 1 << i - 20;
            checks.badArgument("20: no routine " + i, () -> x.change(low, high));
            Names.add(x, Names.plainName(i));
            checks.same("20: routine " + i, x.change(low, high), i + 1);
        }
        checks.same("20: all forty", x.change(0xFFFFF, 0xFFFFF), 41);
        checks.badArgument("20: no bit 20 of the first", () -> x.change(0x100000, 0));
        checks.badArgument("20: no bit 20 of the second", () -> x.change(0, 0x100000));
        for (int i = 0; i < 40; i++) {
            x.put(i, 1);
            checks.same("20: each bit tells its routine, " + i, x.alone(), i < 39 ? 40 : 41);
        }
    }

    /** Promise 23: "NONE: nothing is KEPT". */
    private static void moves() {
        CodeRooms x = new CodeRooms();
        checks.same("23: of a new object", x.moves(), -1);
        Names.add(x, "a");
        x.put(0, 1);
        x.better();
        x.best();
        checks.same("23: still nothing", x.moves(), -1);
        checks.same("23: now", x.keep(), 1);
        checks.same("23: kept", x.moves(), 0);
    }

    /** Promise 24: "NONE for others". */
    private static void count() {
        int[] others = {-1, 6, 7, LEAST, MOST};
        for (int what : others) {
            refused("24: " + what, x -> x.count(what), "-1");
        }
        CodeRooms x = new CodeRooms();
        for (int what = 0; what <= 5; what++) {
            checks.same("24: of a new object, " + what, x.count(what), 0);
        }
        CodeRooms y = furnished();
        int[] due = {5, 1, 2, 20, 4, 2};
        for (int what = 0; what <= 5; what++) {
            checks.same("24: of a furnished one, " + what, y.count(what), due[what]);
        }
    }

    /** Calls that only ask change nothing. */
    private static void asking() {
        refused("5: ties", x -> x.ties(4, 2), "5");
        refused("9: hub", x -> x.hub(HUB), "true");
        refused("10: room", x -> x.room(4), "2");
        refused("10: room of a hub", x -> x.room(HUB), "-1");
        refused("12: cost", x -> x.cost(), String.valueOf(3 * 7 + 5 + 2 * (1 + 4 + 1) + 2_000_000));
        refused("15: border of a hub", x -> x.border(HUB), "1000000000");
        refused("18: face", x -> x.face(0, 0), "0");
        refused("19: ring", x -> x.ring(0), "1");
        refused("21: alone", x -> x.alone(), "0");
        refused("23: moves", x -> x.moves(), "1");
    }

    /** "An object is used for at most 512 calls": the last of them answers as the first. */
    private static void lastOfAllCalls() {
        CodeRooms x = new CodeRooms();
        for (int call = 1; call <= 80; call += 2) {
            Names.add(x, Names.plainName(call / 2));
        }
        x.set(5, 6);
        x.set(3, 100);
        for (int call = 83; call <= 510; call++) {
            int from = call % 40;
            x.tie(from, (from + 1 + call % 37) % 40, call % 3, 1 + call % 9);
        }
        int steps = x.better();
        checks.same("512: better is the 511th", steps > 0 && steps <= 100, true);
        checks.same("512: and another is the last", x.better(), 0);
    }
}
