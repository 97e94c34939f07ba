import java.lang.management.ManagementFactory;

/** All calls of a run share one room of 7.3 million elements: runs of the dearest calls are to stay far below it. */
public final class RoomTest {
    private static final long ROOM = 8L << 20;
    private static int wrong = 0;
    private static int sink = 0;

    private interface Run {
        void play();
    }

    public static void main(String[] args) {
        within("512 new objects", () -> {
            for (int i = 0; i < 512; i++) {
                sink += new EscalatedForms().count(0);
            }
        });
        within("a new form, then its numbers, 256 times", () -> {
            EscalatedForms x = fourSquares();
            for (int i = 0; i < 256; i++) {
                sink += x.change(0, 0, 1, i % 2 == 0 ? 1 : -1);
                sink += x.takes(0, 100) + x.barred(0, 7);
            }
        });
        within("children of two forms in turn", () -> {
            EscalatedForms x = new EscalatedForms();
            x.single(0, 99);
            x.join(0, 0, 1);
            x.join(0, 1, 0);
            x.single(1, 99);
            for (int i = 0; i < 128; i++) {
                sink += x.children(0) + x.child(0, 4000, 2) + x.next(0, 3900, 1) + x.children(1);
            }
        });
        within("a tree that grows and is cut", () -> {
            EscalatedForms x = new EscalatedForms();
            x.single(0, 1);
            x.plant(0);
            for (int i = 0; i < 128; i++) {
                sink += x.branch(0, 1) + x.branch(1, 5) + x.branch(2, 30) + x.ofNode(0, 6) + x.keep() + x.back() + x.cut(1);
            }
        });
        System.out.println(wrong == 0 ? "all runs have room" : wrong + " runs have no room");
        if (wrong != 0) {
            System.exit(1);
        }
    }

    private static EscalatedForms fourSquares() {
        EscalatedForms x = new EscalatedForms();
        x.single(0, 1);
        x.join(0, 0, 0);
        x.join(0, 0, 0);
        return x;
    }

    private static void within(String what, Run run) {
        com.sun.management.ThreadMXBean bean = (com.sun.management.ThreadMXBean) ManagementFactory.getThreadMXBean();
        long id = Thread.currentThread().getId();
        long before = bean.getThreadAllocatedBytes(id);
        run.play();
        long made = bean.getThreadAllocatedBytes(id) - before;
        System.out.println(what + ": " + made + " bytes");
        if (made > ROOM) {
            wrong++;
            System.out.println("that is above " + ROOM);
        }
    }
}
