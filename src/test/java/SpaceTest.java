import java.lang.management.ManagementFactory;

/**
 * What a run of 512 calls makes. An object or array takes 16 bytes at least and an element or field one, so a run that
 * is given less than 200,000 bytes makes less than 12,500 objects and 200,000 elements, far below a run's room.
 */
public final class SpaceTest {
    private static final int CALLS = 512;
    private static final long MOST_BYTES = 200_000;

    private interface Play {
        void run(CodeRooms rooms, int call);
    }

    private static final Checks checks = new Checks("SpaceTest");

    private static long bytesSoFar() {
        return ((com.sun.management.ThreadMXBean) ManagementFactory.getThreadMXBean()).getCurrentThreadAllocatedBytes();
    }

    /** Five words each, and no word twice, as every word that is new is held. */
    private static int[][] wordyNames() {
        int[][] names = new int[40][];
        for (int i = 0; i < 40; i++) {
            StringBuilder text = new StringBuilder();
            for (int k = 0; k < 5; k++) {
                text.append((char) ('a' + i % 26)).append((char) ('a' + (i / 26 * 5 + k) % 26)).append((char) ('a' + k)).append('_');
            }
            names[i] = Names.numbersOf(text.toString());
        }
        return names;
    }

    private static long bytesOf(int[][] names, Play play) {
        long before = bytesSoFar();
        CodeRooms rooms = new CodeRooms();
        for (int[] n : names) {
            rooms.feed(n[0], n[1], n[2], n[3], n[4]);
            rooms.routine(20);
        }
        for (int call = 2 * names.length; call < CALLS; call++) {
            play.run(rooms, call);
        }
        long bytes = bytesSoFar() - before;
        checks.same("all names are taken", rooms.count(0), names.length);
        return bytes;
    }

    private static void look(String what, int count, Play play) {
        int[][] names = java.util.Arrays.copyOf(wordyNames(), count);
        long bytes = bytesOf(names, play);
        checks.same(what + " of " + count + " made " + bytes + " bytes, few enough", bytes > 0 && bytes < MOST_BYTES, true);
    }

    private static void mix(CodeRooms rooms, int call) {
        switch (call % 8) {
            case 0: rooms.tie(call % 7, 7, call % 3, call); break;
            case 1: rooms.put(call % 5, call % 2); break;
            case 2: rooms.better(); break;
            case 3: rooms.best(); break;
            case 4: rooms.name(0); break;
            case 5: rooms.keep(); break;
            case 6: rooms.moves(); break;
            default: rooms.ring(1);
        }
    }

    private static void failToName(CodeRooms rooms, int call) {
        if (call % 3 == 2) {
            rooms.routine(40);
        } else {
            rooms.feed(call, call, call, call, call);
        }
    }

    public static void main(String[] args) {
        look("to name in vain", 0, SpaceTest::failToName);
        for (int count : new int[] {8, 9, 39, 40}) {
            look("better", count, (rooms, call) -> rooms.better());
            look("best", count, (rooms, call) -> rooms.best());
            look("border", count, (rooms, call) -> rooms.border(call % 8));
            look("name", count, (rooms, call) -> rooms.name(call % 2));
            look("face", count, (rooms, call) -> rooms.face(call % 2, 0));
            look("moves", count, (rooms, call) -> rooms.moves());
            look("set", count, (rooms, call) -> rooms.set(5, 1 + call % 6));
            look("tie", count, (rooms, call) -> rooms.tie(call % 8, (call + 1) % 8, call % 3, call));
            look("a mix", count, SpaceTest::mix);
        }
        checks.end();
    }
}
