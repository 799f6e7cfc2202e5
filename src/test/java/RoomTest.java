import java.lang.management.ManagementFactory;
import java.util.Random;

/** Rule 12 and the room that all calls of a run share: what an object and its 512 calls make stays small. */
public final class RoomTest {
    private static final Check C = new Check("RoomTest");
    /** The room has 7.3 million fields and elements; a run may take a hundredth of it for each object, in bytes. */
    private static final long BYTES_OF_A_RUN = 4 * 73_000;
    private static final String LONG = "catches 1" + "+1".repeat(140) + ";cut 1;";

    public static void main(String[] args) {
        for (int i = 0; i < 3; i++) {
            steps(new RailingsCount());
            texts(new RailingsCount());
            askings();
        }
        C.due("an object, its steps and images", made(() -> steps(new RailingsCount())) < BYTES_OF_A_RUN, true);
        C.due("an object and as many long texts as can be read", made(() -> texts(new RailingsCount())) < BYTES_OF_A_RUN, true);
        C.due("askings make next to nothing", made(RoomTest::askings) < BYTES_OF_A_RUN / 4, true);
        C.finish();
    }

    private static long made(Runnable calls) {
        com.sun.management.ThreadMXBean bean = (com.sun.management.ThreadMXBean) ManagementFactory.getThreadMXBean();
        long ahead = bean.getCurrentThreadAllocatedBytes();
        calls.run();
        return bean.getCurrentThreadAllocatedBytes() - ahead;
    }

    private static void steps(RailingsCount x) {
        for (int i = 0; i < 7; i++) {
            x.child(1, 1);
        }
        for (int i = 0; i < 100; i++) {
            x.year(60);
            x.ages(i, 40);
            x.image();
            x.undo();
            x.back();
        }
    }

    private static void texts(RailingsCount x) {
        for (int i = 0; i < 25; i++) {
            feed(x);
            x.text();
            x.back();
        }
    }

    /** The text, and blanks, by fifteen calls; words are made outside, so that the tape alone is measured. */
    private static void feed(RailingsCount x) {
        for (int at = 0; at < 300; at += 20) {
            x.feed(word(at), word(at + 4), word(at + 8), word(at + 12), word(at + 16));
        }
    }

    private static int word(int from) {
        int word = 0;
        for (int i = from; i < from + 4; i++) {
            word = word << 8 | (i < LONG.length() ? LONG.charAt(i) : ' ');
        }
        return word;
    }

    private static void askings() {
        RailingsCount x = new RailingsCount();
        x.child(7, 7);
        Random random = new Random(5);
        for (int i = 0; i < 17; i++) {
            int p = random.nextInt(30);
            x.foretold(60, 0);
            x.likely(0, p, 12, true);
            x.start(0, 12);
            x.mean(0, p, true);
            x.which(0, p, 12);
            x.nth(p, 60);
            x.worth(0, p, true);
            x.goesOn(0, p, 11);
            x.best(0);
            x.could(2, 2);
            x.ask(2);
            x.sings(0, 29, true);
            x.visits(0, p);
            x.meet(0, p, 0, 3);
            x.period();
            x.least();
            x.mirrors();
            x.longest(1, true);
            x.arc(15);
            x.quiet(15);
            x.changed();
            x.whose();
            x.greatest();
            x.twins();
            x.odd();
            x.thickest();
            x.ledger(-1);
        }
    }
}
