import java.io.ByteArrayOutputStream;
import java.nio.charset.StandardCharsets;

/** One ZoneAnswers with names and data written as text: what a test puts in and reads out. */
final class Desk {
    final ZoneAnswers zone = new ZoneAnswers();

    /** A name from its text, "." for the root, "www.example." for one of two labels. */
    static byte[] name(String text) {
        ByteArrayOutputStream out = new ByteArrayOutputStream();
        for (String label : text.equals(".") ? new String[0] : text.split("\\.")) {
            out.write(label.length());
            out.writeBytes(label.getBytes(StandardCharsets.ISO_8859_1));
        }
        out.write(0);
        return out.toByteArray();
    }

    static byte[] bytes(int... values) {
        byte[] row = new byte[values.length];
        for (int i = 0; i < row.length; i++) {
            row[i] = (byte) values[i];
        }
        return row;
    }

    static byte[] join(byte[]... parts) {
        ByteArrayOutputStream out = new ByteArrayOutputStream();
        for (byte[] part : parts) {
            out.writeBytes(part);
        }
        return out.toByteArray();
    }

    /** A label of so many letters. */
    static String letters(int n) {
        return "x".repeat(n);
    }

    /** Makes the tape just these bytes; the odd ones come first, so that it can be filled to its last byte. */
    Desk tape(byte[]... parts) {
        byte[] all = join(parts);
        int odd = all.length % 20;
        zone.end(0);
        if (odd > 0) {
            feed(all, 0);
            zone.end(odd);
        }
        for (int at = odd; at < all.length; at += 20) {
            feed(all, at);
        }
        return this;
    }

    private void feed(byte[] row, int at) {
        zone.feed(number(row, at), number(row, at + 4), number(row, at + 8), number(row, at + 12), number(row, at + 16));
    }

    private static int number(byte[] row, int at) {
        int number = 0;
        for (int i = at; i < at + 4; i++) {
            number = number << 8 | (i < row.length ? row[i] & 255 : 0);
        }
        return number;
    }

    Object origin(String origin, int time, int minimum) {
        return originOf(time, minimum, name(origin), name("ns." + (origin.equals(".") ? "" : origin)), name("adm."));
    }

    Object originOf(int time, int minimum, byte[]... parts) {
        tape(parts);
        return Check.of(() -> {
            zone.origin(time, 7200, 900, 1209600, minimum);
            return "done";
        });
    }

    Object put(String name, int type, int time, byte[]... data) {
        tape(name(name), join(data));
        return Check.of(() -> zone.put(type, time));
    }

    Object take(String name, int type, byte[]... data) {
        tape(name(name), join(data));
        return Check.of(() -> zone.take(type));
    }

    Object takeAll(String name, int type) {
        tape(name(name));
        return Check.of(() -> zone.takeAll(type));
    }

    Object state(String name) {
        tape(name(name));
        return Check.of(() -> zone.state());
    }

    Object ask(String name, int type, boolean secure) {
        tape(name(name));
        return Check.of(() -> zone.ask(type, secure));
    }

    /** The code of an answer and its sections: "code | section 1 | section 2 | section 3". */
    String answer(String name, int type, boolean secure) {
        Object code = ask(name, type, secure);
        return code + " | " + section(1) + " | " + section(2) + " | " + section(3);
    }

    /** The records of a section as text, each "name type time data". */
    String section(int section) {
        StringBuilder text = new StringBuilder();
        for (int k = 0; k < zone.records(section); k++) {
            text.append(k == 0 ? "" : "; ").append(record(section, k));
        }
        return text.length() == 0 ? "-" : text.toString();
    }

    String record(int section, int k) {
        byte[] name = row(section, k, 0, zone.told(section, k, 2));
        byte[] data = row(section, k, name.length, zone.told(section, k, 3));
        int type = zone.told(section, k, 0);
        return nameText(name, 0) + " " + type + " " + zone.told(section, k, 1) + " " + dataText(type, data);
    }

    private byte[] row(int section, int k, int from, int length) {
        byte[] row = new byte[length];
        for (int i = 0; i < length; i++) {
            row[i] = (byte) zone.byteOf(section, k, from + i);
        }
        return row;
    }

    static String dataText(int type, byte[] data) {
        switch (type) {
            case 2:
            case 5:
            case 12:
                return nameText(data, 0);
            case 15:
                return hex(data, 0, 2) + " " + nameText(data, 2);
            case 33:
                return hex(data, 0, 6) + " " + nameText(data, 6);
            case 6: {
                int second = nameLength(data, 0);
                int numbers = second + nameLength(data, second);
                StringBuilder text = new StringBuilder(nameText(data, 0) + " " + nameText(data, second));
                for (int at = numbers; at < data.length; at += 4) {
                    text.append(' ').append(Integer.toUnsignedString(number(data, at)));
                }
                return text.toString();
            }
            case 47:
                return nameText(data, 0) + typesText(data, nameLength(data, 0));
            default:
                return hex(data, 0, data.length);
        }
    }

    private static String typesText(byte[] data, int from) {
        StringBuilder text = new StringBuilder();
        for (int at = from; at < data.length; at += 2 + data[at + 1]) {
            for (int i = 0; i < data[at + 1] * 8; i++) {
                if ((data[at + 2 + i / 8] >> 7 - i % 8 & 1) != 0) {
                    text.append(' ').append((data[at] & 255) * 256 + i);
                }
            }
        }
        return text.toString();
    }

    private static int nameLength(byte[] row, int from) {
        int at = from;
        while (row[at] != 0) {
            at += row[at] + 1;
        }
        return at + 1 - from;
    }

    private static String nameText(byte[] row, int from) {
        StringBuilder text = new StringBuilder();
        for (int at = from; row[at] != 0; at += row[at] + 1) {
            text.append(new String(row, at + 1, row[at], StandardCharsets.ISO_8859_1)).append('.');
        }
        return text.length() == 0 ? "." : text.toString();
    }

    private static String hex(byte[] row, int from, int to) {
        StringBuilder text = new StringBuilder("#");
        for (int i = from; i < to; i++) {
            text.append(String.format("%02x", row[i]));
        }
        return text.toString();
    }
}
