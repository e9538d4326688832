import com.sun.management.ThreadMXBean;
import java.lang.management.ManagementFactory;
import java.util.function.Consumer;

/** LANGUAGE.md, rule 12: what a run makes is small, since many runs live in one room. */
public final class RoomTest {
    private static final Check C = new Check("room");
    private static final ThreadMXBean ROOM = (ThreadMXBean) ManagementFactory.getThreadMXBean();

    public static void main(String[] args) {
        asking();
        aWholeRun();
        C.end();
    }

    /** The bytes that a use makes, without those that asking for them makes itself; once before, for what the machine loads. */
    private static long made(BellFoundry f, Consumer<BellFoundry> use) {
        use.accept(f);
        long nothing = bytes(f, g -> { });
        return bytes(f, use) - nothing;
    }

    private static long bytes(BellFoundry f, Consumer<BellFoundry> use) {
        long id = Thread.currentThread().getId();
        long before = ROOM.getThreadAllocatedBytes(id);
        use.accept(f);
        return ROOM.getThreadAllocatedBytes(id) - before;
    }

    private static void asking() {
        C.sentence("What a run makes is counted");
        C.due("cuts and tunings", made(wide(), RoomTest::cutAndTune), 0);
        C.due("rings", made(wide(), RoomTest::cutAndRing), 0);
        C.due("what is told", made(wide(), RoomTest::tell), 0);
    }

    /** A room of 600000 objects has to hold many runs: some 250 objects a run, of 20000 bytes or a few more. */
    private static void aWholeRun() {
        C.sentence("What a run makes is counted");
        long made = made(null, none -> {
            BellFoundry f = wide();
            cutAndTune(f);
            cutAndRing(f);
            tell(f);
        });
        C.yes("a whole run made " + made + " bytes", made > 0 && made < 40000);
    }

    /** All 4 profiles and all 24 bells, with much to search among. */
    private static BellFoundry wide() {
        BellFoundry f = Making.rich();
        for (int p = 0; p < 4; p++) {
            f.profile(p);
            for (int h = 0; h < 8; h++) {
                Making.height(f, p, h, 50, 0, h % 2 == 0 ? 50 - h : h - 50, 2 * h - 7);
            }
        }
        for (int b = 0; b < 24; b++) {
            f.cast(b % 4);
        }
        Making.sing(f, 200, 0, 0, 10, 20, 30, 40, 50, 60);
        return f;
    }

    private static void cutAndTune(BellFoundry f) {
        for (int b = 0; b < 24; b++) {
            f.cut(b, b % 8);
            f.span(0, b, b + 1);
            f.tuning(b);
            f.tuningAt(b, 1);
            f.tune(b);
        }
    }

    private static void cutAndRing(BellFoundry f) {
        for (int b = 0; b < 24; b++) {
            f.cut(b, b % 8);
            f.ringWeight();
            f.ringBell(b % 8);
        }
    }

    private static void tell(BellFoundry f) {
        for (int what = 0; what <= 18; what++) {
            f.bellOf(what, what);
            f.about(what);
            f.tower(what % 5, 100, 1000000);
            f.hang(what, what % 5);
        }
    }
}
