import com.sun.management.ThreadMXBean;
import java.lang.management.ManagementFactory;
import java.util.ArrayList;
import java.util.List;

/**
 * The dearest runs of 512 calls make less than 7,300,000 bytes: so neither 600,000 objects, each of which
 * has 16 bytes or more, nor 7.3 million fields and elements.
 */
public final class RoomTest {
    private static final long ROOM = 7_300_000;
    private static final int CALLS = 512;

    /** A run: the numbers of each call, the first one telling which call it is. */
    private final List<int[]> calls = new ArrayList<>();

    public static void main(String[] args) {
        manyTypesInLinks();
        starAfterStar();
        manyInAnAnswer();
        longTapeThatThrows();
        newZones();
        Check.end();
    }

    /** Records of types in windows of their own at one name, whose link is asked for again and again. */
    private static void manyTypesInLinks() {
        for (int puts = 64; puts <= 192; puts += 32) {
            RoomTest run = new RoomTest();
            for (int i = 0; i < puts; i++) {
                run.feed(Desk.join(Desk.name("a."), new byte[17]));
                run.calls.add(new int[] {3, (i + 1) * 256 + 255});
            }
            while (run.calls.size() < CALLS) {
                run.feed(Desk.name("b.aaaaaaaaaaaaaaaa."));
                run.calls.add(new int[] {4, 1});
            }
            run.check("links after " + puts + " puts");
        }
    }

    /** Nine aliases by stars with long names, and nine links. */
    private static void starAfterStar() {
        RoomTest run = new RoomTest();
        String tail = Desk.letters(60) + "." + Desk.letters(48) + ".";
        for (int i = 0; i < 9; i++) {
            run.feed(Desk.join(Desk.name("*." + i + (i == 0 ? "." : "." + tail)), Desk.name("q." + (i + 1) + "." + tail)));
            run.calls.add(new int[] {3, 5});
        }
        while (run.calls.size() < CALLS) {
            run.feed(Desk.name("aaaaaaaaaaaaaaaa.0."));
            run.calls.add(new int[] {4, 1});
        }
        run.check("star after star");
    }

    private static void manyInAnAnswer() {
        RoomTest run = new RoomTest();
        for (int i = 0; i < 128; i++) {
            run.feed(Desk.join(Desk.name("aaaaaaaaaaaaaaaa."), Desk.bytes(i, 0)));
            run.calls.add(new int[] {3, 99});
        }
        while (run.calls.size() < CALLS) {
            run.feed(Desk.name("aaaaaaaaaaaaaaaa."));
            run.calls.add(new int[] {2, 18});
            run.calls.add(new int[] {4, 255});
        }
        run.check("many in an answer");
    }

    /** What throws leaves the tape as it was, and so can be called at once again. */
    private static void longTapeThatThrows() {
        RoomTest run = new RoomTest();
        String tail = (Desk.letters(63) + ".").repeat(3);
        run.feed(Desk.join(Desk.name(Desk.letters(58) + "." + tail), new byte[20 * 100]));
        while (run.calls.size() < CALLS) {
            run.calls.add(new int[] {5, 99});
        }
        run.check("a long tape that throws");
    }

    private static void newZones() {
        RoomTest run = new RoomTest();
        while (run.calls.size() < CALLS) {
            run.feed(Desk.join(Desk.name("aaaaaa."), Desk.name("aaa."), Desk.name("aaaa.")));
            run.calls.add(new int[] {2, 19});
            run.calls.add(new int[] {6, 1});
        }
        run.check("new zones");
    }

    private void feed(byte[] bytes) {
        for (int at = 0; at < bytes.length; at += 20) {
            int[] call = new int[6];
            call[0] = 1;
            for (int i = 0; i < 20; i++) {
                call[1 + i / 4] = call[1 + i / 4] << 8 | (at + i < bytes.length ? bytes[at + i] & 255 : 0);
            }
            calls.add(call);
        }
        if (bytes.length > 20 && bytes.length % 20 != 0) {
            calls.add(new int[] {2, bytes.length});
        }
    }

    private void check(String what) {
        ThreadMXBean threads = (ThreadMXBean) ManagementFactory.getThreadMXBean();
        long thread = Thread.currentThread().getId();
        threads.getThreadAllocatedBytes(thread);
        int thrown = 0;
        long before = threads.getThreadAllocatedBytes(thread);
        ZoneAnswers zone = new ZoneAnswers();
        for (int i = 0; i < CALLS && i < calls.size(); i++) {
            try {
                call(zone, calls.get(i));
            } catch (RuntimeException e) {
                thrown++;
            }
        }
        long made = threads.getThreadAllocatedBytes(thread) - before;
        System.out.println(what + ": " + made + " bytes, " + thrown + " calls threw");
        Check.due(what + " stays within the room", made < ROOM, true);
    }

    private static void call(ZoneAnswers zone, int[] call) {
        switch (call[0]) {
            case 1:
                zone.feed(call[1], call[2], call[3], call[4], call[5]);
                break;
            case 2:
                zone.end(call[1]);
                break;
            case 3:
                zone.put(call[1], 1);
                break;
            case 4:
                zone.ask(call[1], true);
                break;
            case 5:
                zone.take(call[1]);
                break;
            default:
                zone.origin(1, 1, 1, 1, 1);
                break;
        }
    }
}
