import java.lang.management.ManagementFactory;

/**
 * All calls of one run live in one room of 600,000 objects and 7.3 million fields and elements: here
 * each call, made 512 times on an object that holds as much as can be, stays far below it in bytes.
 */
public final class RoomTest {
    private static final com.sun.management.ThreadMXBean THREADS =
            (com.sun.management.ThreadMXBean) ManagementFactory.getThreadMXBean();
    /** Each object has 16 bytes at least, each field or element one to eight. */
    private static final long MOST_BYTES = 600000L * 16;

    /** One of the 512 calls. */
    interface Call {
        void on(ScopeWarden x, int i);
    }

    public static void main(String[] args) {
        look("new", (x, i) -> new ScopeWarden());
        look("would", (x, i) -> x.would(0, i % 6));
        look("trial", (x, i) -> x.trial(0, 100, i % 6));
        look("image", (x, i) -> x.image());
        look("undo", (x, i) -> x.undo());
        look("plan", (x, i) -> x.plan(0, i % 90));
        look("row", (x, i) -> x.row(i % 4, 40));
        look("spell", (x, i) -> x.spell(0));
        look("byName", (x, i) -> x.byName(i % 90));
        look("run", (x, i) -> {
            x.run(100);
            x.undo();
        });
        look("shut", (x, i) -> {
            x.shut(0);
            x.undo();
        });
        look("take, with a text that had to be fed", (x, i) -> {
            if (i % 120 == 119) {
                x.take(0);
            }
            x.feed(i % 2 == 0 ? 'a' : '=');
        });
        Due.end();
    }

    /** As many of all as there can be; an image of it; and texts ahead of every call that reads one. */
    private static ScopeWarden full() {
        ScopeWarden x = new ScopeWarden();
        for (int i = 0; i < 10; i++) {
            Due.task(x, 0, 0, "+0=1;.;+0=1;.;+0=1;.;+0=1;.;+0=1;.;+0=1;.;+0=1;.;+0=1;.;+0=1;.;+0=1");
        }
        for (int i = 0; i < 49; i++) {
            x.open(10 + i);
        }
        for (int i = 0; i < 90; i++) {
            Due.take(x, i % 60, "t" + (char) ('a' + i / 26) + (char) ('a' + i % 26) + "=+0=1;aq;?0<0:!3;mtzz>4;!7");
        }
        x.image();
        return x;
    }

    private static void look(String name, Call call) {
        ScopeWarden x = full();
        call.on(x, 0);
        long id = Thread.currentThread().getId();
        long before = THREADS.getThreadAllocatedBytes(id);
        for (int i = 0; i < 512; i++) {
            call.on(x, i);
        }
        long bytes = THREADS.getThreadAllocatedBytes(id) - before;
        boolean fits = name.equals("new") ? bytes < 2 * MOST_BYTES : bytes < MOST_BYTES / 100;
        Due.isTrue("512 calls of " + name + " with " + bytes + " bytes fit", fits);
    }
}
