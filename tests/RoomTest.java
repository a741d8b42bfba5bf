import java.lang.management.ManagementFactory;

/**
 * What 512 calls make: a run has room for 600,000 objects and 7.3 million fields and elements.
 * An object takes 16 bytes or more, so a run that takes less than 9,600,000 bytes has room enough.
 */
public final class RoomTest {
    interface Run {
        void call(Tuninghouse x, int i);
    }

    private static final com.sun.management.ThreadMXBean BEAN = (com.sun.management.ThreadMXBean) ManagementFactory.getThreadMXBean();
    private static int wrong = 0;

    private static void run(String title, Run run) {
        for (int turn = 0; turn < 2; turn++) {
            long before = BEAN.getThreadAllocatedBytes(Thread.currentThread().getId());
            Tuninghouse x = new Tuninghouse();
            for (int i = 0; i < 512; i++) {
                run.call(x, i);
            }
            long bytes = BEAN.getThreadAllocatedBytes(Thread.currentThread().getId()) - before;
            if (turn == 1) {
                System.out.println(title + ": " + bytes + " bytes");
                if (bytes >= 9_600_000L) {
                    wrong++;
                    System.out.println("too much for " + title);
                }
            }
        }
    }

    public static void main(String[] args) {
        run("row", (x, i) -> {
            if (i == 0) {
                x.fraction(0, 3, 2);
            } else {
                x.row(i & 3, 0, i % 40 - 40, 40);
            }
        });
        run("gaps and errors", (x, i) -> {
            if (i == 0) {
                x.fraction(0, 3, 2);
            } else if (i % 3 == 0) {
                x.row(i & 3, 0, i % 40 - 40, 40);
            } else if (i % 3 == 1) {
                x.gapSorts(i & 3);
            } else {
                x.errors();
            }
        });
        run("errors", (x, i) -> {
            if (i == 0) {
                x.fraction(0, 3, 2);
            } else if (i < 5) {
                x.row(i & 3, 0, 0, 40);
            } else {
                x.errors();
            }
        });
        run("names", (x, i) -> {
            if (i % 2 == 0) {
                x.parts(0, i, 360);
            } else {
                x.giveName(0, i % 100);
            }
        });
        run("modes", (x, i) -> {
            if (i == 0) {
                x.fraction(0, 3, 2);
            } else if (i == 1) {
                x.row(0, 0, 0, 40);
            } else {
                x.mode(0, 1);
            }
        });
        run("reading", (x, i) -> {
            if (i < 79) {
                x.type(i % 2 == 0 ? 0x7230 : 0x2b);
            } else {
                x.read(3);
            }
        });
        run("pure", (x, i) -> {
            if (i < 12) {
                x.temper(i, 2 * i - 11);
            } else {
                x.pure(i % 12);
            }
        });
        run("moves", (x, i) -> {
            if (i == 0) {
                x.fraction(0, 3, 2);
            } else if (x.moves() < 60) {
                x.move(0, i % 2 == 0);
            } else {
                x.drift(60, 1);
            }
        });
        run("commas", (x, i) -> {
            if (i == 0) {
                x.fraction(0, 2, 1);
            } else {
                x.commas(20, 10, 0, i % 101);
            }
        });
        run("asking", (x, i) -> {
            if (i == 0) {
                x.fraction(0, 3, 2);
            } else if (i % 4 == 0) {
                x.nearest(0, 7, 2000);
            } else if (i % 4 == 1) {
                x.term(0, 15);
            } else if (i % 4 == 2) {
                x.string(0, 999999);
            } else {
                x.beats(0, 440, 3, 100);
            }
        });
        if (wrong != 0) {
            System.exit(1);
        }
    }
}
