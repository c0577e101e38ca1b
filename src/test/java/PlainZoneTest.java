import java.util.ArrayList;
import java.util.List;
import java.util.Random;

/** Promises 4 to 14 once more: long runs of calls, drawn from fixed seeds, against the plain zone. */
public final class PlainZoneTest {
    private static final String[] LABELS = {"a", "b", "*", "c", "aa", "B", "!"};
    private static final String[] ORIGINS = {".", "a.", "b.a."};
    private static final int[] TYPES = {1, 1, 2, 2, 5, 5, 5, 12, 15, 15, 16, 28, 33, 43, 43, 99, 256, 65535};
    private static final int[] ASKED = {1, 1, 1, 2, 5, 6, 12, 15, 15, 28, 33, 43, 43, 47, 99, 255, 255, 65535};

    private final Random random;
    private final Desk desk = new Desk();
    private final int depth;
    private String origin;
    private PlainZone plain;
    private String run;

    private PlainZoneTest(int seed) {
        random = new Random(seed);
        depth = 2 + seed % 3;
        run = "seed " + seed;
    }

    public static void main(String[] args) {
        for (int seed = 0; seed < 300; seed++) {
            new PlainZoneTest(seed).go();
        }
        Check.end();
    }

    private void go() {
        begin();
        for (int i = 0; i < 90; i++) {
            int draw = random.nextInt(100);
            if (draw < 55) {
                put();
            } else if (draw < 65) {
                take();
            } else if (draw < 70) {
                takeAll();
            } else if (draw < 95) {
                ask();
            } else if (draw == 99 && random.nextInt(4) == 0) {
                begin();
            } else {
                counts();
            }
        }
        for (int i = 0; i < 20; i++) {
            ask();
        }
        counts();
    }

    private void begin() {
        origin = ORIGINS[random.nextInt(ORIGINS.length)];
        int time = random.nextInt(50);
        int minimum = random.nextInt(50) - 5;
        Check.due(run + " origin", desk.origin(origin, time, minimum), "done");
        plain = new PlainZone(origin, time, minimum);
    }

    private String name() {
        StringBuilder text = new StringBuilder();
        for (int i = random.nextInt(depth + 1); i > 0; i--) {
            text.append(LABELS[random.nextInt(LABELS.length)]).append('.');
        }
        boolean inside = random.nextInt(20) > 0;
        text.append(inside && !origin.equals(".") ? origin : "");
        return text.length() == 0 ? "." : text.toString();
    }

    private byte[] data(int type) {
        int small = random.nextInt(2);
        switch (type) {
            case 1:
                return Desk.bytes(0, 0, 0, small);
            case 28:
                return Desk.join(new byte[15], Desk.bytes(small));
            case 2:
            case 5:
            case 12:
                return Desk.name(name().toLowerCase());
            case 15:
                return Desk.join(Desk.bytes(65, small), Desk.name(name().toLowerCase()));
            case 33:
                return Desk.join(Desk.bytes(0, 0, 0, 0, 65, small), Desk.name(name().toLowerCase()));
            default:
                return Desk.bytes(1, 65 + small);
        }
    }

    private void put() {
        int type = TYPES[random.nextInt(TYPES.length)];
        String name = name();
        byte[] data = data(type);
        int time = random.nextInt(9);
        String call = run + " put " + name + " " + type + " " + Desk.dataText(type, data);
        Check.due(call, desk.put(name, type, time, data), plain.put(PlainZone.labels(name), type, time, data));
    }

    private void take() {
        int type = TYPES[random.nextInt(TYPES.length)];
        String name = name();
        byte[] data = data(type);
        String call = run + " take " + name + " " + type + " " + Desk.dataText(type, data);
        Check.due(call, desk.take(name, type, data), plain.take(PlainZone.labels(name), type, data));
    }

    private void takeAll() {
        int type = random.nextInt(3) == 0 ? 255 : TYPES[random.nextInt(TYPES.length)];
        String name = name();
        Check.due(run + " takeAll " + name + " " + type, desk.takeAll(name, type), plain.takeAll(PlainZone.labels(name), type));
    }

    private void ask() {
        int type = ASKED[random.nextInt(ASKED.length)];
        boolean secure = random.nextInt(4) > 0;
        String name = name();
        String got = desk.answer(name, type, secure);
        int code = plain.ask(PlainZone.labels(name), type, secure);
        Check.due(run + " ask " + name + " " + type + " " + secure, got,
                code + " | " + text(1) + " | " + text(2) + " | " + text(3));
    }

    private String text(int section) {
        List<String> texts = new ArrayList<>();
        for (PlainZone.Row row : plain.sections.get(section)) {
            texts.add(row.text());
        }
        return texts.isEmpty() ? "-" : String.join("; ", texts);
    }

    private void counts() {
        for (int what = 1; what <= 6; what++) {
            Check.due(run + " count(" + what + ")", desk.zone.count(what), plain.count(what));
        }
        for (int i = 0; i < 10; i++) {
            String name = name();
            Check.due(run + " state of " + name, desk.state(name), plain.state(PlainZone.labels(name)));
        }
    }
}
