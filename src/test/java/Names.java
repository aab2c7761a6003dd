/** Puts names on the tape, and reads the page, as texts. */
final class Names {
    private Names() {
    }

    static int[] numbersOf(String text) {
        int[] numbers = new int[5];
        for (int k = 0; k < text.length(); k++) {
            numbers[k / 4] |= (text.charAt(k) & 255) << (24 - 8 * (k % 4));
        }
        return numbers;
    }

    static int feed(CodeRooms rooms, String text) {
        int[] n = numbersOf(text);
        return rooms.feed(n[0], n[1], n[2], n[3], n[4]);
    }

    static int add(CodeRooms rooms, String text) {
        feed(rooms, text);
        return rooms.routine(text.length());
    }

    static CodeRooms with(String... names) {
        CodeRooms rooms = new CodeRooms();
        for (String name : names) {
            add(rooms, name);
        }
        return rooms;
    }

    /** So many routines, named "a", "b" and so on, then "aa", "ab" and so on. */
    static CodeRooms with(int count) {
        CodeRooms rooms = new CodeRooms();
        for (int i = 0; i < count; i++) {
            add(rooms, plainName(i));
        }
        return rooms;
    }

    static String plainName(int i) {
        String last = String.valueOf((char) ('a' + i % 26));
        return i < 26 ? last : "a" + last;
    }

    static String page(CodeRooms rooms) {
        StringBuilder text = new StringBuilder();
        for (int k = 0; k < rooms.count(4); k++) {
            text.append((char) rooms.octet(k));
        }
        return text.toString();
    }

    static String nameOf(CodeRooms rooms, int room) {
        int bytes = rooms.name(room);
        String text = page(rooms);
        return bytes == text.length() ? text : "answered " + bytes + " for " + text;
    }

    /** The room of each routine, a digit each; "-" for a hub. */
    static String division(CodeRooms rooms) {
        StringBuilder text = new StringBuilder();
        for (int i = 0; i < rooms.count(0); i++) {
            int room = rooms.room(i);
            text.append(room == CodeRooms.NONE ? "-" : String.valueOf(room));
        }
        return text.toString();
    }

    static void divide(CodeRooms rooms, String digits) {
        for (int i = 0; i < digits.length(); i++) {
            if (digits.charAt(i) != '-') {
                rooms.put(i, digits.charAt(i) - '0');
            }
        }
    }
}
