import com.sun.management.ThreadMXBean;
import java.lang.management.ManagementFactory;

/**
 * What calls make (LANGUAGE.md, rule 12): nothing, but for the first image of each number.
 * Whole runs of the dearest calls, on full objects, are counted in bytes.
 */
public final class RoomTest {
    private static final int CALLS = 512;
    /** What the machine itself may make beside the class, in a run of 512 calls. */
    private static final long SPARE = 400;
    private static final ThreadMXBean THREADS = (ThreadMXBean) ManagementFactory.getThreadMXBean();
    private static int wrong = 0;
    private static long sum = 0;

    /** A run of calls on an object; what stands in k changes from call to call. */
    private interface Call {
        long on(AfterYou x, int k);
    }

    public static void main(String[] args) {
        run("type", (x, k) -> k % 4 == 0 ? x.clear() : x.type(0x6f6c6465723b2020L, 8));
        run("item", (x, k) -> x.item(k % 9, k % 4));
        run("talk", (x, k) -> x.talk(k % 8, (k + 1) % 8, k % 3));
        run("meet", (x, k) -> x.meet(k % 8, (k + 1) % 8));
        run("through", (x, k) -> x.through(k % 9 - 1));
        run("soonest", (x, k) -> k == 0 ? sixInTheQueue(x) : x.soonest(k % 7 - 1));
        run("avoid", (x, k) -> x.avoid());
        run("way", (x, k) -> x.way(k % 8, k % 6, (k + 5) % 6, k % 7 - 1));
        run("tell", (x, k) -> k % 17 == 0 ? x.forget() : x.tell(k % 8, (k + 1) % 8, k % 8));
        run("judge", (x, k) -> x.judge());
        run("learns", (x, k) -> x.learns());
        run("struck", (x, k) -> x.struck(k % 8, (k + 3) % 8) + x.struck(-1, -1));
        run("have", (x, k) -> x.have(k % 8, (k + 1) % 8, k % 2 == 0));
        run("firsts", (x, k) -> x.firsts(k % 8) + x.part(k % 2));
        run("strikes", (x, k) -> x.strikes());
        run("image, from", (x, k) -> k % 2 == 0 ? x.image(k / 2 % 2) : x.from(k / 2 % 2));
        run("refused", (x, k) -> x.talk(k % 8, 8, 0) + x.from(2) + x.status(3) + x.person(0, 0, 0, 0));
        run("digest", (x, k) -> x.digest() + x.count(k % 4) + x.status(k % 3) + x.fault());
        made();
        System.out.println(wrong == 0 ? "calls make nothing" : wrong + " make something");
        if (wrong != 0) {
            System.exit(1);
        }
    }

    private static void run(String what, Call call) {
        // The first time classes are loaded and calls are linked, which makes objects of the machine's own.
        bytesOf(call);
        long bytes = Math.min(bytesOf(call), bytesOf(call));
        if (bytes > SPARE) {
            wrong++;
            System.out.println(what + ": " + CALLS + " calls make " + bytes + " bytes");
        }
    }

    private static long bytesOf(Call call) {
        AfterYou x = full();
        x.image(0);
        x.image(1);
        long before = THREADS.getCurrentThreadAllocatedBytes();
        for (int k = 0; k < CALLS; k++) {
            sum += call.on(x, k);
        }
        return THREADS.getCurrentThreadAllocatedBytes() - before;
    }

    /** An object and both its images together stay far below the room of a run. */
    private static void made() {
        long least = Long.MAX_VALUE;
        for (int k = 0; k < 3; k++) {
            long before = THREADS.getCurrentThreadAllocatedBytes();
            AfterYou x = new AfterYou();
            sum += x.image(0) + x.image(1);
            least = Math.min(least, THREADS.getCurrentThreadAllocatedBytes() - before);
        }
        if (least > 20000) {
            wrong++;
            System.out.println("an object and its images: " + least + " bytes");
        }
    }

    private static int sixInTheQueue(AfterYou x) {
        x.disperse();
        for (int person = 0; person < 6; person++) {
            x.come(5 - person);
        }
        return 0;
    }

    private static AfterYou full() {
        AfterYou x = new AfterYou();
        for (int k = 0; k < 8; k++) {
            x.person(k % 6, 90 - 10 * k, k, k);
            x.come(k);
        }
        write(x, "from 2 again older 3;from 3 again laden;from 4 again higher;from 5 again owed;");
        write(x, "again turn;older;from 6 laden 2;owed 2;from 9 second;");
        for (int a = 0; a < 6; a++) {
            x.waits(a, a);
            for (int b = a + 1; b < 6; b++) {
                x.leg(a, b, a + b);
                x.owe(a, b, 10 * a + b);
                x.owe(b, a, 10 * b + a);
            }
        }
        for (int k = 0; k < 16; k++) {
            x.tell(k % 8, (k + 1) % 8, Math.min(k % 8, (k + 1) % 8));
        }
        if (x.fault() != AfterYou.NONE || x.count(2) != 8 || x.count(3) != 16 || x.item(8, 2) != 9) {
            wrong++;
            System.out.println("the object is not full");
        }
        return x;
    }

    private static void write(AfterYou x, String text) {
        for (int i = 0; i < text.length(); i++) {
            x.type(text.charAt(i), 1);
        }
    }
}
