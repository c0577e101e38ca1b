import java.nio.charset.StandardCharsets;
import java.util.ArrayList;
import java.util.Arrays;
import java.util.Collections;
import java.util.List;
import java.util.TreeMap;
import java.util.TreeSet;

/**
 * The document's zone in its slowest and plainest form, to compare with: nothing is kept but the records,
 * and every term is looked up among all names. A name is its labels, the first one first.
 */
final class PlainZone {
    static final class Row {
        final List<String> name;
        final int type;
        int time;
        final byte[] data;

        Row(List<String> name, int type, int time, byte[] data) {
            this.name = name;
            this.type = type;
            this.time = time;
            this.data = data;
        }

        String text() {
            return nameText(name) + " " + type + " " + time + " " + Desk.dataText(type, data);
        }
    }

    private final List<String> origin;
    private final int minimum;
    private final List<Row> rows = new ArrayList<>();
    final List<List<Row>> sections = new ArrayList<>();

    PlainZone(String origin, int time, int minimum) {
        this.origin = labels(origin);
        this.minimum = minimum;
        byte[] names = Desk.join(Desk.name("ns." + (origin.equals(".") ? "" : origin)), Desk.name("adm."));
        rows.add(new Row(this.origin, 6, time, Desk.join(names, new byte[] {0, 0, 0, 1, 0, 0, 28, 32, 0, 0, 3, (byte) 132, 0, 18, 117, 0,
            (byte) (minimum >> 24), (byte) (minimum >> 16), (byte) (minimum >> 8), (byte) minimum})));
    }

    static List<String> labels(String text) {
        return text.equals(".") ? List.of() : Arrays.asList(text.toLowerCase().split("\\."));
    }

    static String nameText(List<String> name) {
        return name.isEmpty() ? "." : String.join(".", name) + ".";
    }

    static boolean isAtOrBelow(List<String> name, List<String> other) {
        int more = name.size() - other.size();
        return more >= 0 && name.subList(more, name.size()).equals(other);
    }

    static int order(List<String> one, List<String> other) {
        for (int i = 1; i <= Math.min(one.size(), other.size()); i++) {
            int step = one.get(one.size() - i).compareTo(other.get(other.size() - i));
            if (step != 0) {
                return step;
            }
        }
        return one.size() - other.size();
    }

    private static List<String> target(int type, byte[] data) {
        int from = type == 15 ? 2 : type == 33 ? 6 : 0;
        List<String> labels = new ArrayList<>();
        for (int at = from; data[at] != 0; at += data[at] + 1) {
            labels.add(new String(data, at + 1, data[at], StandardCharsets.ISO_8859_1));
        }
        return labels;
    }

    private List<Row> set(List<String> name, int type) {
        List<Row> set = new ArrayList<>();
        for (Row row : rows) {
            if (row.name.equals(name) && row.type == type) {
                set.add(row);
            }
        }
        return set;
    }

    private List<Row> all(List<String> name) {
        List<Row> all = new ArrayList<>();
        for (Row row : rows) {
            if (row.name.equals(name)) {
                all.add(row);
            }
        }
        all.sort((one, other) -> Integer.compare(one.type, other.type));
        return all;
    }

    private TreeSet<List<String>> owners() {
        TreeSet<List<String>> owners = new TreeSet<>(PlainZone::order);
        for (Row row : rows) {
            owners.add(row.name);
        }
        return owners;
    }

    private boolean isThere(List<String> name) {
        for (Row row : rows) {
            if (isAtOrBelow(row.name, name)) {
                return isAtOrBelow(name, origin);
            }
        }
        return false;
    }

    private List<List<String>> cuts() {
        List<List<String>> cuts = new ArrayList<>();
        for (List<String> owner : owners()) {
            if (!owner.equals(origin) && !set(owner, 2).isEmpty()) {
                cuts.add(owner);
            }
        }
        return cuts;
    }

    private boolean isGivenAway(List<String> name) {
        for (List<String> cut : cuts()) {
            if (!name.equals(cut) && isAtOrBelow(name, cut)) {
                return true;
            }
        }
        return false;
    }

    private TreeSet<List<String>> chain() {
        TreeSet<List<String>> chain = owners();
        chain.removeIf(this::isGivenAway);
        return chain;
    }

    private int linkTime() {
        long time = rows.get(0).time;
        return (int) Math.min(time, minimum & 0xFFFFFFFFL);
    }

    private Row link(List<String> name) {
        TreeSet<List<String>> chain = chain();
        List<String> next = chain.higher(name) == null ? chain.first() : chain.higher(name);
        TreeMap<Integer, byte[]> windows = new TreeMap<>();
        List<Integer> types = new ArrayList<>(List.of(46, 47));
        for (Row row : all(name)) {
            if (!cuts().contains(name) || row.type == 2 || row.type == 43) {
                types.add(row.type);
            }
        }
        for (int type : types) {
            byte[] window = windows.computeIfAbsent(type / 256, number -> new byte[32]);
            window[type % 256 / 8] |= (byte) (1 << 7 - type % 8);
        }
        byte[] data = Desk.name(nameText(next));
        for (int number : windows.keySet()) {
            int length = 32;
            while (windows.get(number)[length - 1] == 0) {
                length--;
            }
            data = Desk.join(data, Desk.bytes(number, length), Arrays.copyOf(windows.get(number), length));
        }
        return new Row(name, 47, linkTime(), data);
    }

    /** How many the set has then, or the name of what is thrown. */
    Object put(List<String> name, int type, int time, byte[] data) {
        if (!isAtOrBelow(name, origin)) {
            return "IllegalArgumentException";
        }
        List<Row> set = set(name, type);
        boolean isNew = set.stream().noneMatch(row -> Arrays.equals(row.data, data));
        if (isNew && (!set(name, 5).isEmpty() || type == 5 && !all(name).isEmpty())) {
            return "UnsupportedOperationException";
        }
        if (isNew) {
            rows.add(new Row(name, type, time, data));
        }
        set(name, type).forEach(row -> row.time = time);
        return set(name, type).size();
    }

    Object take(List<String> name, int type, byte[] data) {
        if (!isAtOrBelow(name, origin)) {
            return "IllegalArgumentException";
        }
        boolean gone = rows.removeIf(row -> row.name.equals(name) && row.type == type && Arrays.equals(row.data, data));
        return gone ? set(name, type).size() : "NoSuchElementException";
    }

    Object takeAll(List<String> name, int type) {
        if (!isAtOrBelow(name, origin)) {
            return "IllegalArgumentException";
        }
        int before = rows.size();
        rows.removeIf(row -> row.name.equals(name) && row.type != 6 && (type == 255 || row.type == type));
        return before - rows.size();
    }

    int state(List<String> name) {
        if (!isAtOrBelow(name, origin)) {
            return 0;
        }
        if (all(name).isEmpty()) {
            return isThere(name) ? 2 : 1;
        }
        return isGivenAway(name) ? 5 : cuts().contains(name) ? 4 : 3;
    }

    int count(int what) {
        TreeSet<String> found = new TreeSet<>();
        for (Row row : rows) {
            if (what == 2) {
                found.add(nameText(row.name) + " " + row.type);
            }
            for (int i = 0; what == 4 && i <= row.name.size() - origin.size(); i++) {
                found.add(nameText(row.name.subList(i, row.name.size())));
            }
        }
        return what == 1 ? rows.size() : what == 3 ? owners().size() : what == 5 ? chain().size() : what == 6 ? cuts().size() : found.size();
    }

    private void add(int section, List<Row> set, List<String> name, int time) {
        for (Row row : set) {
            sections.get(section).add(new Row(name, row.type, time < 0 ? row.time : time, row.data));
        }
    }

    private void addLink(List<String> name) {
        boolean isIn = sections.get(2).stream().anyMatch(row -> row.type == 47 && row.name.equals(name));
        if (!isIn) {
            sections.get(2).add(link(name));
        }
    }

    private void addAddresses(List<String> name) {
        for (int type : new int[] {1, 28}) {
            boolean isIn = false;
            for (int section : new int[] {1, 3}) {
                isIn |= sections.get(section).stream().anyMatch(row -> row.type == type && row.name.equals(name));
            }
            if (!isIn && isAtOrBelow(name, origin)) {
                add(3, set(name, type), name, -1);
            }
        }
    }

    int ask(List<String> question, int type, boolean secure) {
        sections.clear();
        for (int i = 0; i <= 3; i++) {
            sections.add(new ArrayList<>());
        }
        if (!isAtOrBelow(question, origin)) {
            return 5;
        }
        int code = walk(question, type, secure);
        for (Row row : sections.get(1)) {
            if (row.type == 2 || row.type == 15 || row.type == 33) {
                List<String> name = target(row.type, row.data);
                if (!cuts().contains(name) && !isGivenAway(name)) {
                    addAddresses(name);
                }
            }
        }
        return code;
    }

    private int walk(List<String> question, int type, boolean secure) {
        List<String> name = question;
        int aliases = 0;
        while (true) {
            if (!isAtOrBelow(name, origin)) {
                return 0;
            }
            List<String> cut = nearestCut(name);
            if (cut != null && !(name.equals(cut) && type == 43)) {
                refer(cut, secure);
                return 0;
            }
            List<String> found = name;
            if (!isThere(name)) {
                List<String> above = name;
                while (!isThere(above)) {
                    above = above.subList(1, above.size());
                }
                found = new ArrayList<>(List.of("*"));
                found.addAll(above);
                if (all(found).isEmpty()) {
                    add(2, set(origin, 6), origin, linkTime());
                    if (secure) {
                        addLink(chain().lower(name));
                        addLink(chain().lower(found));
                    }
                    return 3;
                }
            }
            List<Row> alias = set(found, 5);
            boolean isAlias = !alias.isEmpty() && type != 5 && type != 255;
            List<Row> set = isAlias ? alias : type == 255 ? all(found) : set(found, type);
            add(1, set, name, -1);
            if (set.isEmpty()) {
                add(2, set(origin, 6), origin, linkTime());
                if (secure) {
                    addLink(chain().contains(found) ? found : chain().lower(found));
                }
            }
            if (!found.equals(name) && secure) {
                addLink(chain().lower(name));
            }
            aliases++;
            if (!isAlias || aliases == 9) {
                return 0;
            }
            name = target(5, alias.get(0).data);
        }
    }

    private List<String> nearestCut(List<String> name) {
        List<List<String>> over = new ArrayList<>(cuts());
        over.removeIf(cut -> !isAtOrBelow(name, cut));
        return over.isEmpty() ? null : Collections.min(over, (one, other) -> one.size() - other.size());
    }

    private void refer(List<String> cut, boolean secure) {
        add(2, set(cut, 2), cut, -1);
        if (secure && !set(cut, 43).isEmpty()) {
            add(2, set(cut, 43), cut, -1);
        } else if (secure) {
            addLink(cut);
        }
        for (Row row : set(cut, 2)) {
            addAddresses(target(2, row.data));
        }
    }
}
