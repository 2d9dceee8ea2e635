import com.sun.management.ThreadMXBean;
import java.lang.management.ManagementFactory;
import java.util.function.Function;
import java.util.function.IntConsumer;

/**
 * All calls of one run live in one room: an object makes its rows once, and 512 calls of any kind make next to nothing
 * beside them. Made bytes are counted, not those that are held, as nothing is ever swept out of the room.
 */
public final class RoomTests extends Due {
    /** Six rows of 38,880 numbers, made twice, as they grow; 7.3 million elements of a room are 15 times as much. */
    private static final long MOST_BYTES = 2_000_000;
    private static final int CALLS = 512;
    /** The largest hall, all told as often as can be. */
    private static final String HALL = "seed 5;block 3 4 5;spot a 15 1;spot b 2 6;spot c 9 3;spot d 5 5;spot e 12 2;"
            + "spot f 0 4;pile 0 5;pile 9 2;pile 15 3;job 9 2;job 15 7;job 9 12;wind 3 1;wind 40 -1;do east 1;"
            + "do still 30;do west 1;do still 30;";
    private static final String SMALL = "width 4;deep 2;top 1;swing 1;spot a 3 1;do still 30;";

    private static final ThreadMXBean THREADS = (ThreadMXBean) ManagementFactory.getThreadMXBean();

    private RoomTests() {
    }

    private static long made() {
        return THREADS.getThreadAllocatedBytes(Thread.currentThread().getId());
    }

    /** What a new crane and so many calls of it make, behind a first time that loads what is needed. */
    private static void room(String name, String text, Function<SwingCrane, IntConsumer> calls) {
        long least = Long.MAX_VALUE;
        for (int i = 0; i < 2; i++) {
            long before = made();
            SwingCrane x = new SwingCrane();
            tell(x, text);
            IntConsumer call = calls.apply(x);
            for (int k = 0; k < CALLS; k++) {
                call.accept(k);
            }
            least = Math.min(least, made() - before);
        }
        due(name + " makes " + least + " bytes, no more than " + MOST_BYTES, least <= MOST_BYTES, true);
    }

    private static void questions(SwingCrane x, int k) {
        int spot = k % 6;
        x.fewest(spot);
        x.by(spot, k % 9);
        x.halt();
        x.rests(k & 1);
        x.between(spot, (k + 1) % 6);
        x.tour();
        x.stop(spot);
        x.carry(9, k % 16);
        x.jobs();
        x.job(k % 3);
        x.ifPile(k % 16, spot);
        x.reach(k % 3);
        x.safe(k & 1);
        x.bears();
        x.level(spot);
        x.ifWind(spot, k % 9 - 4);
        x.nearest();
        x.least(spot);
        x.steadiest(spot);
        x.along(spot, k % 5);
    }

    private static void others(SwingCrane x, int k) {
        x.pulses(1 + k % 6, 8, k % 9);
        x.shortest(1 + k % 6, 1 + k % 8);
        x.chance(k, 60, k % 3);
        x.drift();
        x.sway(60);
        x.can();
        x.why(k % 9);
        x.gap(0, 15);
        x.log(k % 40, k % 3);
        x.again();
        x.count(k % 13);
        x.now(k % 9);
    }

    private static void moves(SwingCrane x, int k) {
        x.flow(40);
        x.step(0, k % 3 - 1);
        x.grab();
        x.drop();
        x.undo();
        x.keep();
        x.undo();
        x.back();
        x.halt();
    }

    public static void main(String[] args) {
        if (!THREADS.isThreadAllocatedMemorySupported()) {
            System.out.println("this machine doesn't count what is made");
            return;
        }
        room("a question by a way, at a moment of its own", HALL, x -> k -> {
            x.step(0, 0);
            x.safe(0);
        });
        room("each question about ways", HALL, x -> k -> questions(x, k % 12));
        room("each other question", HALL, x -> k -> others(x, k));
        room("moves", HALL, x -> k -> moves(x, k));
        room("refused calls", HALL, x -> k -> {
            x.step(k + 2, 0);
            x.text(-1);
            x.fewest(-k);
            x.along(9, k);
        });
        room("texts", SMALL, x -> k -> {
            x.feed(0x77696474, 0x6820343B + (k % 6 << 8), 0x20202020, 0x20202020, 0x20202020);
            due("a text", x.text(20), 1);
            x.safe(0);
        });
        System.out.println(wrong == 0 ? "nothing takes much room" : wrong + " take too much room");
        if (wrong > 0) {
            System.exit(1);
        }
    }
}
