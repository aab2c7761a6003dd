/**
 * All that can be asked of an object, as one text. What is only told by setting it is set and put back at once, in ways
 * that take no room from any routine. Some 90 calls for five routines and 210 for ten, so two of them fit into an object's 512.
 */
final class Snapshot {
    private static final int[] HARMLESS_SETTING = {0, 0, 0, 0, 40, 6};

    private final CodeRooms rooms;
    private final int routines;
    private final StringBuilder text = new StringBuilder();

    private Snapshot(CodeRooms rooms) {
        this.rooms = rooms;
        routines = rooms.count(0);
    }

    static String of(CodeRooms rooms) {
        Snapshot made = new Snapshot(rooms);
        made.countsAndPage();
        made.eachRoutine();
        made.eachPair();
        made.division();
        made.settings();
        return made.text.toString();
    }

    private void tell(String what, long value) {
        text.append(what).append(' ').append(value).append("; ");
    }

    private void countsAndPage() {
        for (int what = 0; what <= 5; what++) {
            tell("count " + what, rooms.count(what));
        }
        text.append("page ").append(Names.page(rooms)).append("; ");
    }

    private void eachRoutine() {
        for (int i = 0; i < routines; i++) {
            tell("room " + i, rooms.room(i));
            tell("border " + i, rooms.border(i));
            int fixed = rooms.fix(i, -1);
            rooms.fix(i, fixed);
            tell("fix " + i, fixed);
        }
    }

    private void eachPair() {
        for (int i = 0; i < routines; i++) {
            for (int j = i + 1; j < routines; j++) {
                tell("ties " + i + " " + j, rooms.ties(i, j));
                int must = rooms.must(i, j, 0);
                rooms.must(i, j, must);
                tell("must " + i + " " + j, must);
            }
        }
    }

    private void division() {
        tell("cost", rooms.cost());
        tell("alone", rooms.alone());
        tell("moves", rooms.moves());
        for (int room = 0; room < 2; room++) {
            tell("ring " + room, roomAnswer(room, false));
            tell("face " + room, roomAnswer(room, true));
        }
    }

    /** With one room alone there is no room 1 to ask for. */
    private long roomAnswer(int room, boolean face) {
        try {
            return face ? rooms.face(room, 0) : rooms.ring(room);
        } catch (IllegalArgumentException noSuchRoom) {
            return -9;
        }
    }

    private void settings() {
        for (int what = 0; what <= 5; what++) {
            int was = rooms.set(what, HARMLESS_SETTING[what]);
            rooms.set(what, was);
            tell("set " + what, was);
        }
    }
}
