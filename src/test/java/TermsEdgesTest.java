/** Each sentence of the document's "Terms" that names a boundary, on both sides of it. */
public final class TermsEdgesTest {
    private static final int CALLS = 0;
    private static final int SHARES = 1;
    private static final int CHANGES = 2;
    private static final int EVEN = 3;
    private static final int LIMIT = 4;
    private static final int ROOMS = 5;
    private static final String TWENTY = "abcdefghijklmnopqrst";

    private static final Checks checks = new Checks("TermsEdgesTest");

    private static void same(String what, long got, long want) {
        checks.same(what, got, want);
    }

    private static void same(String what, String got, String want) {
        checks.same(what, got, want);
    }

    public static void main(String[] args) {
        fortyRoutines();
        lengthsOfNames();
        bytesOfNames();
        emptyWords();
        wordsAtEnds();
        tieNumbers();
        toldTogether();
        directions();
        weights();
        hubsAboveTheLimit();
        hubsByTiesAboveZero();
        hubsInNoRoom();
        roomsBelowR();
        mustsAtFirst();
        mustsOfThoseInRooms();
        costOfNothing();
        costOfTies();
        costOfEven();
        costOfMusts();
        roomZeroAtFirst();
        roomsThatAreNoMore();
        hubsThatAreNoneAnyMore();
        checks.end();
    }

    /** "ROUTINES, numbered from 0 on, 40 at most". */
    private static void fortyRoutines() {
        CodeRooms x = new CodeRooms();
        for (int i = 0; i < 40; i++) {
            same("numbered from 0 on", Names.add(x, Names.plainName(i)), i);
        }
        Names.feed(x, "more");
        checks.badState("40 at most", () -> x.routine(4));
        same("still 40", x.count(0), 40);
        same("the last one is there", x.room(39), 0);
        checks.outOfBounds("and none behind it", () -> x.room(40));
    }

    /** "NAMES: 1 to 20 bytes". */
    private static void lengthsOfNames() {
        for (int length = 0; length <= 40; length++) {
            CodeRooms x = new CodeRooms();
            Names.feed(x, TWENTY);
            Names.feed(x, TWENTY);
            boolean isName = length >= 1 && length <= 20;
            same("a name of " + length + " bytes", x.routine(length), isName ? 0 : -1);
            same("routines with a name of " + length + " bytes", x.count(0), isName ? 1 : 0);
            same("bytes of the word of " + length + " bytes", x.name(0), isName ? length : 0);
        }
    }

    /** "small letters and "_"": each byte there is, first, last and alone. */
    private static void bytesOfNames() {
        for (int octet = 0; octet < 256; octet++) {
            String sign = String.valueOf((char) octet);
            boolean isRight = octet >= 'a' && octet <= 'z' || octet == '_';
            int due = isRight ? 0 : -1;
            same("byte " + octet + " alone", Names.add(new CodeRooms(), sign), due);
            same("byte " + octet + " first", Names.add(new CodeRooms(), sign + "ab"), due);
            same("byte " + octet + " last", Names.add(new CodeRooms(), TWENTY.substring(1) + sign), due);
        }
    }

    /** "an empty WORD is none": by letters it would be ahead of all others. */
    private static void emptyWords() {
        String[] empty = {"_", "__", "____________________"};
        for (String name : empty) {
            CodeRooms x = Names.with(name);
            same("no word in " + name, x.name(0), 0);
            same("an empty page after " + name, x.count(4), 0);
        }
        String[] one = {"_a", "a_", "_a_", "__a", "a__", "___a___"};
        for (String name : one) {
            same("one word in " + name, Names.nameOf(Names.with(name), 0), "a");
        }
        CodeRooms x = Names.with("_", "b");
        same("a routine without words beside one with", Names.nameOf(x, 0), "b");
        x.put(1, 1);
        same("a routine without words alone", x.name(0), 0);
    }

    /** "letters between two of them, or an end, are one". */
    private static void wordsAtEnds() {
        same("all of a name", Names.nameOf(Names.with(TWENTY), 0), TWENTY);
        String[] words = {"first", "mid", "last"};
        for (String word : words) {
            CodeRooms x = Names.with("first_mid__last", "first", "mid", "last");
            Names.divide(x, "0111");
            int same = word.equals("first") ? 1 : word.equals("mid") ? 2 : 3;
            x.put(same, 0);
            same("a word at its place: " + word, Names.nameOf(x, 0), word);
        }
        CodeRooms x = Names.with("ab_c", "ab", "a");
        Names.divide(x, "010");
        same("a part of a word is none", Names.nameOf(x, 0), "a");
        x.put(2, 1);
        same("letters up to the end", Names.nameOf(x, 0), "c");
    }

    /** "a number (1 to 1,000)". */
    private static void tieNumbers() {
        CodeRooms x = Names.with(2);
        int[] wrong = {0, 1001, -1, -1000, Integer.MIN_VALUE, Integer.MAX_VALUE};
        for (int k = CALLS; k <= CHANGES; k++) {
            int kind = k;
            same("1 is a number", x.tie(0, 1, kind, 1), 1);
            same("1,000 is a number", x.tie(0, 1, kind, 1000), 1001);
            for (int number : wrong) {
                checks.badArgument(number + " is none", () -> x.tie(0, 1, kind, number));
            }
        }
        same("what was refused is not told", x.ties(0, 1), 3003);
    }

    /** "all that is told of a KIND together (999,999 at most)": the most that 512 calls can tell. */
    private static void toldTogether() {
        CodeRooms x = Names.with(2);
        int told = 0;
        for (int call = 5; call <= 511; call++) {
            told = x.tie(0, 1, CHANGES, 1000);
        }
        same("507 times 1,000", told, 507_000);
        same("the 512th call", x.ties(1, 0), 507_000);
        CodeRooms kinds = Names.with(2);
        kinds.tie(0, 1, CALLS, 1);
        kinds.tie(0, 1, SHARES, 10);
        same("of a kind alone", kinds.tie(0, 1, CHANGES, 100), 100);
        same("of the first kind", kinds.tie(0, 1, CALLS, 1), 2);
        same("of the second kind", kinds.tie(0, 1, SHARES, 10), 20);
    }

    /** "calls have a direction, the others have none". */
    private static void directions() {
        CodeRooms x = Names.with(3);
        x.tie(0, 1, CALLS, 5);
        same("calls the other way", x.tie(1, 0, CALLS, 7), 7);
        same("calls this way", x.tie(0, 1, CALLS, 1), 6);
        x.tie(2, 0, SHARES, 5);
        same("shares the other way", x.tie(0, 2, SHARES, 7), 12);
        x.tie(2, 1, CHANGES, 5);
        same("changes the other way", x.tie(1, 2, CHANGES, 7), 12);
        same("TIE has calls both ways", x.ties(1, 0), 13);
    }

    /** "WEIGHTS of KINDS: 0 to 9 (1 at first)". */
    private static void weights() {
        for (int k = CALLS; k <= CHANGES; k++) {
            int kind = k;
            CodeRooms x = Names.with(2);
            x.tie(0, 1, kind, 1000);
            same("1 at first", x.ties(0, 1), 1000);
            same("told as 1", x.set(kind, 9), 1);
            same("9 is a weight", x.ties(0, 1), 9000);
            checks.badArgument("10 is none", () -> x.set(kind, 10));
            checks.badArgument("-1 is none", () -> x.set(kind, -1));
            same("a refused one leaves it", x.ties(0, 1), 9000);
            same("told as 9", x.set(kind, 0), 9);
            same("0 is a weight", x.ties(0, 1), 0);
        }
    }

    /** "with more than LIMIT (0 to 40; 40 at first) other ones". */
    private static void hubsAboveTheLimit() {
        int[] limits = {0, 1, 2, 20, 37, 38, 39, 40};
        for (int limit : limits) {
            CodeRooms x = Names.with(40);
            x.set(LIMIT, limit);
            for (int others = 1; others <= 39; others++) {
                x.tie(others, 0, SHARES, 1);
                checks.same(others + " others, limit " + limit, x.hub(0), others > limit);
            }
            same("hubs with limit " + limit, x.count(1), limit == 0 ? 40 : limit < 39 ? 1 : 0);
        }
        CodeRooms x = Names.with(3);
        checks.badArgument("41 is no limit", () -> x.set(LIMIT, 41));
        checks.badArgument("-1 is no limit", () -> x.set(LIMIT, -1));
        same("40 at first", x.set(LIMIT, 1), 40);
        x.tie(0, 1, CALLS, 1);
        x.tie(1, 0, CALLS, 1);
        x.tie(0, 1, SHARES, 1);
        x.tie(0, 1, CHANGES, 1000);
        checks.same("many ties with one are one other", x.hub(0), false);
        x.tie(0, 2, CHANGES, 1);
        checks.same("one more", x.hub(0), true);
    }

    /** "if it has a TIE above 0". */
    private static void hubsByTiesAboveZero() {
        CodeRooms x = Names.with(2);
        x.set(LIMIT, 0);
        checks.same("without a tie", x.hub(0), false);
        x.set(SHARES, 0);
        x.tie(0, 1, SHARES, 1000);
        checks.same("with a tie of 0", x.hub(0), false);
        x.set(SHARES, 1);
        checks.same("with a tie above 0", x.hub(0), true);
        checks.same("so the other one", x.hub(1), true);
        x.set(SHARES, 0);
        checks.same("with a tie of 0 again", x.hub(1), false);
    }

    /** "HUBS are in no ROOM". */
    private static void hubsInNoRoom() {
        CodeRooms x = Names.with("hub", "a", "b");
        x.put(0, 1);
        x.tie(0, 1, CALLS, 100);
        x.tie(0, 2, CALLS, 100);
        x.set(LIMIT, 1);
        same("it has no room", x.room(0), -1);
        same("it can't be put", x.put(0, 1), -1);
        same("its room is empty", x.name(1), 0);
        same("its ties cost nothing", x.cost(), 4);
        same("better leaves it", x.better(), 1);
        same("and moves others", Names.division(x), "-10");
        same("best leaves it", x.best(), 2);
        same("and puts others", Names.division(x), "-01");
        same("it is not kept", x.keep(), 2);
    }

    /** "ROOMS 0 to R - 1 (R: 1 to 6; 2 at first)". */
    private static void roomsBelowR() {
        CodeRooms x = Names.with(1);
        checks.badArgument("0 rooms are none", () -> x.set(ROOMS, 0));
        checks.badArgument("7 rooms are none", () -> x.set(ROOMS, 7));
        same("2 at first", x.put(0, 1), 0);
        checks.badArgument("no third room at first", () -> x.put(0, 2));
        same("told as 2", x.set(ROOMS, 6), 2);
        for (int rooms = 6; rooms >= 1; rooms--) {
            int count = rooms;
            x.set(ROOMS, count);
            x.put(0, count - 1);
            same("the last room of " + count, x.room(0), count - 1);
            checks.badArgument("room R of " + count, () -> x.put(0, count));
            checks.badArgument("room -1 of " + count, () -> x.put(0, -1));
            same("a refused room leaves it", x.room(0), count - 1);
            same("its ring", x.ring(count - 1), 1 << count - 1);
            checks.badArgument("ring of room R of " + count, () -> x.ring(count));
            checks.badArgument("face of room R of " + count, () -> x.face(count, 0));
            checks.badArgument("name of room R of " + count, () -> x.name(count));
        }
    }

    /** "together, apart, or none (none at first); of one: a ROOM (NONE at first)". */
    private static void mustsAtFirst() {
        CodeRooms x = Names.with(40);
        for (int i = 0; i < 39; i++) {
            same("none of two at first", x.must(i, i + 1, 0), 0);
            same("none of two at first, the far one", x.must(39 - i, 0, 0), 0);
            same("NONE of one at first", x.fix(i, -1), -1);
        }
        same("none fails", x.count(5), 0);
    }

    /** "They hold if those that are in ROOMS are so". */
    private static void mustsOfThoseInRooms() {
        CodeRooms x = Names.with(3);
        x.must(0, 1, 1);
        x.must(0, 2, 2);
        x.fix(0, 1);
        Names.divide(x, "010");
        same("together, apart and a room fail", x.count(5), 3);
        x.tie(0, 1, CALLS, 1);
        x.tie(0, 2, CALLS, 1);
        x.set(LIMIT, 1);
        same("of a hub all hold", x.count(5), 0);
        same("and cost nothing", x.cost(), 2);
        x.set(LIMIT, 2);
        same("it is in room 0 then, and they fail again", x.count(5), 3);
        x.put(0, 1);
        same("all hold", x.count(5), 0);
    }

    private static void costOfNothing() {
        CodeRooms x = new CodeRooms();
        x.set(EVEN, 100);
        x.set(ROOMS, 6);
        same("no routine costs nothing", x.cost(), 0);
        CodeRooms hubs = Names.with(2);
        hubs.tie(0, 1, CALLS, 1);
        hubs.set(LIMIT, 0);
        same("hubs alone cost nothing", hubs.cost(), 0);
    }

    /** "TIES between ROUTINES of two ROOMS". */
    private static void costOfTies() {
        CodeRooms x = Names.with(3);
        x.set(EVEN, 0);
        x.tie(0, 1, CALLS, 1);
        x.tie(1, 0, CALLS, 10);
        x.tie(1, 2, SHARES, 100);
        same("of one room", x.cost(), 0);
        x.put(0, 1);
        same("of two, both ways, once", x.cost(), 11);
        x.put(1, 1);
        same("of the other two", x.cost(), 100);
        x.set(ROOMS, 3);
        x.put(0, 2);
        same("of three rooms", x.cost(), 111);
        x.set(CALLS, 0);
        same("of weight 0", x.cost(), 100);
    }

    /** "EVEN (0 to 100; 1 at first) times the sum of the squares of how many ROUTINES ROOMS have". */
    private static void costOfEven() {
        CodeRooms x = Names.with(40);
        same("1 at first", x.cost(), 1600);
        same("told as 1", x.set(EVEN, 100), 1);
        same("100 is even", x.cost(), 160_000);
        checks.badArgument("101 is none", () -> x.set(EVEN, 101));
        checks.badArgument("-1 is none", () -> x.set(EVEN, -1));
        same("a refused one leaves it", x.cost(), 160_000);
        x.set(ROOMS, 6);
        for (int i = 0; i < 40; i++) {
            x.put(i, i % 6);
        }
        same("six rooms", x.cost(), 100 * (4 * 49 + 2 * 36));
        x.set(EVEN, 0);
        same("0 is even", x.cost(), 0);
    }

    /** "1,000,000 for each MUST that does not hold". */
    private static void costOfMusts() {
        CodeRooms x = Names.with(40);
        x.set(EVEN, 0);
        int musts = 0;
        for (int i = 0; i < 40; i++) {
            x.fix(i, 5);
            musts++;
        }
        for (int i = 0; i < 10; i++) {
            for (int j = i + 1; j < 40; j++) {
                x.must(j, i, 2);
                musts++;
            }
        }
        same("many that do not hold", x.cost(), 1_000_000L * musts);
        same("as many are counted", x.count(5), musts);
    }

    /** "each ROUTINE is in ROOM 0 at first". */
    private static void roomZeroAtFirst() {
        CodeRooms x = Names.with(2);
        x.put(0, 1);
        x.put(1, 1);
        Names.add(x, "late");
        same("a late one, too", Names.division(x), "110");
        x.set(LIMIT, 0);
        x.tie(0, 1, CALLS, 1);
        Names.add(x, "later");
        same("beside hubs, too", Names.division(x), "--00");
    }

    /** "one whose ROOM is R or more is in ROOM 0". */
    private static void roomsThatAreNoMore() {
        String[] due = {"000000", "010000", "012000", "012300", "012340", "012345"};
        for (int rooms = 1; rooms <= 6; rooms++) {
            CodeRooms x = Names.with(6);
            x.set(ROOMS, 6);
            Names.divide(x, "012345");
            x.set(ROOMS, rooms);
            same("of six rooms " + rooms, Names.division(x), due[rooms - 1]);
            same("as a cost", x.cost(), (7 - rooms) * (7 - rooms) + rooms - 1);
            x.set(ROOMS, 6);
            same("and six rooms again after " + rooms, Names.division(x), due[rooms - 1]);
        }
        CodeRooms refused = Names.with(2);
        refused.put(1, 1);
        checks.badArgument("a refused R", () -> refused.set(ROOMS, 0));
        same("a refused R moves none", Names.division(refused), "01");
    }

    /** "also one that was a HUB, when it is none any more": by the limit, or by a weight. */
    private static void hubsThatAreNoneAnyMore() {
        CodeRooms x = Names.with(3);
        Names.divide(x, "111");
        x.tie(0, 1, SHARES, 1);
        x.set(LIMIT, 0);
        same("two hubs", Names.division(x), "--1");
        x.set(LIMIT, 1);
        same("none by the limit", Names.division(x), "001");
        Names.divide(x, "111");
        x.set(LIMIT, 0);
        x.set(SHARES, 0);
        same("none by a weight", Names.division(x), "001");
        Names.divide(x, "111");
        x.tie(0, 1, CALLS, 1);
        same("hubs by a tie", Names.division(x), "--1");
        x.set(LIMIT, 40);
        same("none again", Names.division(x), "001");
    }
}
