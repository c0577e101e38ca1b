import java.util.Arrays;
import java.util.List;
import java.util.Random;

/**
 * Runs of 512 wild calls, drawn from fixed seeds: each throws only what the document lists for it, and what
 * throws changes nothing.
 */
public final class WildCallsTest {
    private static final String BAD = "IllegalArgumentException";
    private static final String FULL = "IllegalStateException";
    private static final String NEVER = "UnsupportedOperationException";
    private static final String NONE = "NoSuchElementException";
    private static final String BEYOND = "IndexOutOfBoundsException";
    private static final List<List<String>> LISTED = List.of(List.of(FULL), List.of(BAD), List.of(BAD), List.of(BAD, FULL, NEVER),
            List.of(BAD, NONE), List.of(BAD), List.of(), List.of(BAD), List.of(NONE), List.of(NONE, BAD), List.of(NONE, BEYOND),
            List.of(BAD), List.of());
    /** Which call comes how often: new zones seldom, or nothing would gather in them. */
    private static final int[] CALLS = {0, 1, 2, 3, 3, 3, 3, 3, 3, 3, 3, 3, 3, 4, 4, 4, 4, 5, 6, 7, 7, 7, 7, 7, 8, 9, 9, 10, 10, 11, 12};
    private static final int[] BYTES = {0, 0, 0, 0, 1, 1, 1, 2, 3, 42, 63, 64, 65, 90, 97, 97, 98, 128, 192, 255};
    private static final int[] TYPES = {1, 2, 2, 2, 2, 2, 5, 5, 5, 5, 5, 12, 15, 15, 16, 28, 33, 43, 43, 43, 43, 99, 99, 99, 99, 255,
        256, 6, 41, 46, 47, 48, 249, 65535, 0, -1, 65536, Integer.MIN_VALUE, Integer.MAX_VALUE};
    private static final int[] NUMBERS = {0, 0, 0, 0, 1, 1, 1, 1, 2, 2, 2, 2, 3, 3, 4, 5, 6, 7, 8, 9, 20, -1, Integer.MIN_VALUE, Integer.MAX_VALUE};

    private final Random random;
    private final ZoneAnswers zone = new ZoneAnswers();
    private final int seed;

    private WildCallsTest(int seed) {
        this.seed = seed;
        random = new Random(seed);
    }

    public static void main(String[] args) {
        for (int seed = 0; seed < 1500; seed++) {
            new WildCallsTest(seed).go();
        }
        Check.end();
    }

    private void go() {
        int made = 0;
        while (made < 512) {
            int which = pick(CALLS);
            boolean takesTheTape = which >= 2 && which <= 5 || which == 7 || which == 11;
            if (takesTheTape && random.nextInt(4) > 0) {
                made += tape(which == 3 || which == 4, which == 2);
            }
            call(which);
            made++;
        }
    }

    private int pick(int[] row) {
        return row[random.nextInt(row.length)];
    }

    /** Mostly a name, with data behind it, or three names; often with a wild byte. */
    private int tape(boolean data, boolean three) {
        byte[] row = name();
        if (three) {
            row = Desk.join(random.nextInt(4) == 0 ? row : new byte[1], name(), name());
        } else if (data) {
            row = Desk.join(row, new byte[random.nextInt(3) == 0 ? random.nextInt(8) : 0], name());
        }
        if (random.nextInt(5) == 0) {
            row[random.nextInt(row.length)] = (byte) pick(BYTES);
        }
        zone.end(0);
        for (int at = 0; at < row.length; at += 20) {
            int[] numbers = new int[5];
            for (int i = 0; i < 20; i++) {
                numbers[i / 4] = numbers[i / 4] << 8 | (at + i < row.length ? row[at + i] & 255 : 0);
            }
            zone.feed(numbers[0], numbers[1], numbers[2], numbers[3], numbers[4]);
        }
        zone.end(row.length);
        return 2 + (row.length + 19) / 20;
    }

    private byte[] name() {
        byte[] row = {0};
        for (int labels = random.nextInt(3); labels > 0; labels--) {
            row = Desk.join(Desk.bytes(1, pick(new int[] {42, 97, 98, 66})), row);
        }
        return row;
    }

    private void call(int which) {
        int[] numbers = {pick(NUMBERS), pick(NUMBERS), pick(NUMBERS), random.nextInt(), pick(TYPES)};
        String before = look();
        Object answer = Check.of(() -> call(which, numbers));
        if (answer instanceof String) {
            String call = "seed " + seed + ", call " + which + Arrays.toString(numbers);
            Check.due(call + " throws " + answer + ", which is listed", LISTED.get(which).contains(answer), true);
            Check.due(call + " throws and changes something", look(), before);
        }
    }

    private Object call(int which, int[] n) {
        switch (which) {
            case 0:
                return zone.feed(n[0], n[1], n[2], n[3], n[4]);
            case 1:
                return zone.end(n[0]);
            case 2:
                zone.origin(n[0], n[1], n[2], n[3], n[4]);
                return null;
            case 3:
                return zone.put(n[4], n[0]);
            case 4:
                return zone.take(n[4]);
            case 5:
                return zone.takeAll(n[4]);
            case 6:
                return zone.serial(n[3]);
            case 7:
                return zone.ask(n[4], n[0] > 2);
            case 8:
                return zone.records(n[0]);
            case 9:
                return zone.told(n[0], n[1], n[2]);
            case 10:
                return zone.byteOf(n[0], n[1], n[2]);
            case 11:
                return zone.state();
            default:
                return zone.count(n[0]);
        }
    }

    /** What can be seen without a change. */
    private String look() {
        StringBuilder text = new StringBuilder();
        for (int what = 0; what <= 7; what++) {
            text.append(zone.count(what)).append(' ');
        }
        for (int section = 1; section <= 3; section++) {
            for (int k = 0; k < zone.records(section); k++) {
                text.append(zone.told(section, k, 0)).append(' ').append(zone.told(section, k, 1)).append(' ');
                int bytes = zone.told(section, k, 2) + zone.told(section, k, 3);
                for (int i = 0; i < bytes; i++) {
                    text.append((char) zone.byteOf(section, k, i));
                }
            }
        }
        return text.toString();
    }
}
