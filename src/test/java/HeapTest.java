import java.lang.management.ManagementFactory;

/** All calls of a run live in one room, so what a run of the dearest calls makes is held small. */
public final class HeapTest {
    private static final int CALLS = 512;
    private static final long MOST_BYTES_OF_A_ROOM = 16_000;
    private static final long MOST_BYTES_OF_A_RUN = 4_000;

    public static void main(String[] args) {
        run();
        long before = made();
        WishRoom room = new WishRoom();
        long ofRoom = made() - before;
        fill(room);
        before = made();
        ask(room);
        long ofRun = made() - before;
        System.out.println("bytes made: " + ofRoom + " by a room, " + ofRun + " by " + CALLS + " calls");
        if (ofRoom > MOST_BYTES_OF_A_ROOM || ofRun > MOST_BYTES_OF_A_RUN) {
            System.exit(1);
        }
    }

    private static long made() {
        return ((com.sun.management.ThreadMXBean) ManagementFactory.getThreadMXBean()).getCurrentThreadAllocatedBytes();
    }

    private static void run() {
        WishRoom room = new WishRoom();
        fill(room);
        ask(room);
    }

    private static void tell(WishRoom room, String text) {
        for (int i = 0; i < text.length(); i++) {
            room.feed(text.charAt(i), 0, 0);
        }
    }

    private static void fill(WishRoom room) {
        tell(room, "must a or b; may c; may d; must e or f;");
        room.law();
        for (int i = 0; i < 28; i++) {
            tell(room, "add must " + (i % 2 == 0 ? "not(" : "(") + (char) ('a' + i % 7) + " and " + (char) ('a' + i % 5) + ");");
            room.wish(i);
            room.world(i);
        }
        for (int vote = 0; vote < 42; vote++) {
            room.vote(vote % 7, vote / 7, vote % 3 != 0);
        }
    }

    private static void ask(WishRoom room) {
        for (int i = 0; i < CALLS; i += 16) {
            room.draft(i % 4, 3);
            room.why(i % 28, i % 4, 0);
            room.votes(2);
            room.favour(i % 7, 2);
            room.gain(i % 7);
            room.least(3);
            room.leastSet(3, 5);
            room.beside(0, i % 4);
            room.blamed(i % 28, 0);
            room.cases(1, 1);
            room.fewest(1);
            room.idle(0);
            room.view(i % 2);
            room.days(1);
            room.feed('m' << 8, 0, 0);
            room.law();
        }
    }
}
