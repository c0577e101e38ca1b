import java.util.ArrayList;
import java.util.Arrays;
import java.util.NoSuchElementException;

/**
 * One zone of the domain name system: records come and go, and every question is answered from it.
 * Names and data come over a tape of bytes, and answers are read byte by byte.
 */
public final class ZoneAnswers {
    private static final int TYPE_A = 1;
    private static final int TYPE_NS = 2;
    private static final int TYPE_CNAME = 5;
    private static final int TYPE_SOA = 6;
    private static final int TYPE_PTR = 12;
    private static final int TYPE_MX = 15;
    private static final int TYPE_TXT = 16;
    private static final int TYPE_AAAA = 28;
    private static final int TYPE_SRV = 33;
    private static final int TYPE_OPT = 41;
    private static final int TYPE_DS = 43;
    private static final int TYPE_RRSIG = 46;
    private static final int TYPE_NSEC = 47;
    private static final int TYPE_DNSKEY = 48;
    private static final int TYPE_TKEY = 249;
    private static final int TYPE_ANY = 255;
    private static final int TYPE_LAST = 65535;

    private static final int CODE_FINE = 0;
    private static final int CODE_NO_NAME = 3;
    private static final int CODE_REFUSED = 5;

    private static final int MOST_ALIASES = 9;
    private static final int MOST_RECORDS = 2000;
    private static final int MOST_TAPE = 65536;
    private static final int MOST_NAME = 255;
    private static final int MOST_LABEL = 63;
    /** A name of 255 bytes has at most 127 labels, and the 0 behind them. */
    private static final int MOST_LABELS = 127;
    private static final int FED_AT_ONCE = 20;
    /** The five numbers at the end of the type 6 record's data. */
    private static final int START_NUMBERS = 20;
    private static final int STAR = 42;

    private final Tape tape;
    private final Zone zone;
    private final Answer answer;

    public ZoneAnswers() {
        tape = new Tape();
        zone = new Zone();
        zone.begin(new Name(new byte[1]), new byte[2 + START_NUMBERS], 0);
        answer = new Answer(zone);
    }

    public int feed(int a, int b, int c, int d, int e) throws IllegalStateException {
        if (!tape.hasRoom()) {
            throw new IllegalStateException();
        }
        tape.append(a);
        tape.append(b);
        tape.append(c);
        tape.append(d);
        tape.append(e);
        return tape.length();
    }

    public int end(int n) throws IllegalArgumentException {
        if (n < 0 || n > tape.length()) {
            throw new IllegalArgumentException();
        }
        tape.cutTo(n);
        return n;
    }

    public void origin(int time, int refresh, int retry, int expire, int minimum) throws IllegalArgumentException {
        int second = tape.nameEnd(0);
        int third = tape.nameEnd(second);
        int last = tape.nameEnd(third);
        if (time < 0 || last < 0 || last != tape.length()) {
            throw new IllegalArgumentException();
        }
        int names = last - second;
        byte[] data = Arrays.copyOf(tape.lowered(second, last), names + START_NUMBERS);
        writeNumber(data, names + 4, refresh);
        writeNumber(data, names + 8, retry);
        writeNumber(data, names + 12, expire);
        writeNumber(data, names + 16, minimum);
        zone.begin(new Name(tape.lowered(0, second)), data, time);
        tape.cutTo(0);
    }

    public int put(int type, int time) throws IllegalArgumentException, IllegalStateException, UnsupportedOperationException {
        Name name = recordName(type);
        if (name == null || time < 0) {
            throw new IllegalArgumentException();
        }
        Owner owner = zone.at(name);
        Rrset set = owner == null ? null : owner.find(type);
        if (set == null || set.place(tape, name.length()) < 0) {
            if (zone.isFull()) {
                throw new IllegalStateException();
            }
            if (owner != null && (type == TYPE_CNAME || owner.find(TYPE_CNAME) != null)) {
                throw new UnsupportedOperationException();
            }
            set = zone.insert(name, type, tape.datum(type, name.length()));
        }
        set.time = time;
        tape.cutTo(0);
        return set.size();
    }

    public int take(int type) throws IllegalArgumentException, NoSuchElementException {
        Name name = recordName(type);
        if (name == null) {
            throw new IllegalArgumentException();
        }
        Owner owner = zone.at(name);
        Rrset set = owner == null ? null : owner.find(type);
        int place = set == null ? -1 : set.place(tape, name.length());
        if (place < 0) {
            throw new NoSuchElementException();
        }
        zone.remove(owner, set, place);
        tape.cutTo(0);
        return set.size();
    }

    public int takeAll(int type) throws IllegalArgumentException {
        Name name = type == TYPE_ANY || isPutType(type) ? tapeName() : null;
        if (name == null || !name.isAtOrBelow(zone.top())) {
            throw new IllegalArgumentException();
        }
        Owner owner = zone.at(name);
        int gone = owner == null ? 0 : zone.removeAll(owner, type);
        tape.cutTo(0);
        return gone;
    }

    public int serial(int n) {
        int old = zone.serialNumber();
        zone.changeSerial(n);
        return old;
    }

    public int ask(int type, boolean secure) throws IllegalArgumentException {
        Name question = type >= 1 && type <= TYPE_LAST ? tapeName() : null;
        if (question == null) {
            throw new IllegalArgumentException();
        }
        tape.cutTo(0);
        answer.begin(type, secure);
        int code = answer.follow(question);
        answer.addAddresses();
        return code;
    }

    public int records(int section) throws NoSuchElementException {
        Section asked = answer.section(section);
        if (asked == null) {
            throw new NoSuchElementException();
        }
        return asked.size();
    }

    public int told(int section, int k, int what) throws NoSuchElementException, IllegalArgumentException {
        Told row = row(section, k);
        if (row == null) {
            throw new NoSuchElementException();
        }
        switch (what) {
            case 0:
                return row.type;
            case 1:
                return row.time;
            case 2:
                return row.name.length();
            case 3:
                return row.datum.length();
            default:
                throw new IllegalArgumentException();
        }
    }

    public int byteOf(int section, int k, int i) throws NoSuchElementException, IndexOutOfBoundsException {
        Told row = row(section, k);
        if (row == null) {
            throw new NoSuchElementException();
        }
        int nameLength = row.name.length();
        if (i < 0 || i >= nameLength + row.datum.length()) {
            throw new IndexOutOfBoundsException();
        }
        return i < nameLength ? row.name.bytes[i] & 255 : row.datum.bytes[i - nameLength] & 255;
    }

    public int state() throws IllegalArgumentException {
        Name name = tapeName();
        if (name == null) {
            throw new IllegalArgumentException();
        }
        tape.cutTo(0);
        if (!name.isAtOrBelow(zone.top())) {
            return 0;
        }
        Owner owner = zone.at(name);
        if (owner == null) {
            return zone.depth(name) < name.labels ? 1 : 2;
        }
        if (owner.isGivenAway()) {
            return 5;
        }
        return owner.isCut() ? 4 : 3;
    }

    public int count(int what) {
        switch (what) {
            case 0:
                return tape.length();
            case 1:
                return zone.recordCount();
            case 2:
                return zone.setCount();
            case 3:
                return zone.ownerCount();
            case 4:
                return zone.thereCount();
            case 5:
                return zone.chainCount();
            case 6:
                return zone.cutCount();
            case 7:
                return zone.serialNumber();
            default:
                return -1;
        }
    }

    /** The name that the tape is, or null if it is not just a name. */
    private Name tapeName() {
        int last = tape.nameEnd(0);
        return last >= 0 && last == tape.length() ? new Name(tape.lowered(0, last)) : null;
    }

    /** The name before the data on the tape, or null if the two are no record that could be in the zone. */
    private Name recordName(int type) {
        int from = tape.nameEnd(0);
        if (from < 0 || !isPutType(type) || !tape.isData(type, from)) {
            return null;
        }
        Name name = new Name(tape.lowered(0, from));
        return name.isAtOrBelow(zone.top()) ? name : null;
    }

    private Told row(int section, int k) {
        Section asked = answer.section(section);
        return asked == null ? null : asked.row(k);
    }

    private static boolean isPutType(int type) {
        boolean kept = type == TYPE_SOA || type == TYPE_OPT || type >= TYPE_RRSIG && type <= TYPE_DNSKEY
                || type >= TYPE_TKEY && type <= TYPE_ANY;
        return type >= 1 && type <= TYPE_LAST && !kept;
    }

    /** Where in data of that type its name begins (it reaches to the end of the data), or -1. */
    private static int nameOffset(int type) {
        switch (type) {
            case TYPE_NS:
            case TYPE_CNAME:
            case TYPE_PTR:
                return 0;
            case TYPE_MX:
                return 2;
            case TYPE_SRV:
                return 6;
            default:
                return -1;
        }
    }

    private static byte lower(byte letter) {
        return letter >= 'A' && letter <= 'Z' ? (byte) (letter + 32) : letter;
    }

    private static void writeNumber(byte[] row, int at, int number) {
        row[at] = (byte) (number >> 24);
        row[at + 1] = (byte) (number >> 16);
        row[at + 2] = (byte) (number >> 8);
        row[at + 3] = (byte) number;
    }

    private static int readNumber(byte[] row, int at) {
        return (row[at] & 255) << 24 | (row[at + 1] & 255) << 16 | (row[at + 2] & 255) << 8 | row[at + 3] & 255;
    }

    /** The row of bytes over which names and data come. Reading it never changes it. */
    private static final class Tape {
        private static final int FIRST_ROOM = 256;

        private byte[] bytes;
        private int length;

        Tape() {
            bytes = new byte[FIRST_ROOM];
            length = 0;
        }

        int length() {
            return length;
        }

        boolean hasRoom() {
            return length <= MOST_TAPE - FED_AT_ONCE;
        }

        void append(int number) {
            if (bytes.length - length < 4) {
                bytes = Arrays.copyOf(bytes, bytes.length * 2);
            }
            writeNumber(bytes, length, number);
            length += 4;
        }

        void cutTo(int n) {
            length = n;
        }

        /** Where the name that begins there ends, or -1 if none begins there. */
        int nameEnd(int from) {
            int at = from;
            for (int labels = 0; labels <= MOST_LABELS && at >= 0 && at < length; labels++) {
                int size = bytes[at] & 255;
                at++;
                if (size == 0) {
                    return at - from <= MOST_NAME ? at : -1;
                }
                if (size > MOST_LABEL) {
                    return -1;
                }
                at += size;
            }
            return -1;
        }

        boolean isData(int type, int from) {
            switch (type) {
                case TYPE_A:
                    return length - from == 4;
                case TYPE_AAAA:
                    return length - from == 16;
                case TYPE_TXT:
                    return isStrings(from);
                default:
                    int offset = nameOffset(type);
                    return offset < 0 || nameEnd(from + offset) == length;
            }
        }

        private boolean isStrings(int from) {
            int at = from;
            while (at < length) {
                at += 1 + (bytes[at] & 255);
            }
            return from < length && at == length;
        }

        byte[] lowered(int from, int to) {
            byte[] row = Arrays.copyOfRange(bytes, from, to);
            lowerFrom(row, 0);
            return row;
        }

        /** From there to the end, as data of that type. */
        Datum datum(int type, int from) {
            byte[] data = Arrays.copyOfRange(bytes, from, length);
            int offset = nameOffset(type);
            if (offset < 0 || offset > data.length) {
                return new Datum(data, null);
            }
            lowerFrom(data, offset);
            return new Datum(data, new Name(Arrays.copyOfRange(data, offset, data.length)));
        }

        /** Whether that data stands from there to the end; a name in it may come in any case. */
        boolean isSame(int from, Datum datum) {
            if (length - from != datum.length()) {
                return false;
            }
            int plain = datum.length() - (datum.target == null ? 0 : datum.target.length());
            for (int i = 0; i < datum.length(); i++) {
                byte come = bytes[from + i];
                if ((i < plain ? come : lower(come)) != datum.bytes[i]) {
                    return false;
                }
            }
            return true;
        }

        private static void lowerFrom(byte[] row, int from) {
            for (int i = from; i < row.length; i++) {
                row[i] = lower(row[i]);
            }
        }
    }

    /** A name in lower case; it never changes, so that zone and answers can share it. */
    private static final class Name {
        final byte[] bytes;
        final int labels;

        Name(byte[] bytes) {
            this.bytes = bytes;
            int seen = 0;
            for (int at = 0; at < bytes.length && bytes[at] > 0; at += bytes[at] + 1) {
                seen++;
            }
            labels = seen;
        }

        int length() {
            return bytes.length;
        }

        /** Where the last labels, so many, begin. */
        private int tail(int depth) {
            int at = 0;
            for (int left = labels - depth; left > 0; left--) {
                at += bytes[at] + 1;
            }
            return at;
        }

        boolean isAtOrBelow(Name other) {
            if (labels < other.labels) {
                return false;
            }
            int from = tail(other.labels);
            boolean same = bytes.length - from == other.bytes.length;
            for (int i = from; same && i < bytes.length; i++) {
                same = bytes[i] == other.bytes[i - from];
            }
            return same;
        }

        boolean isSame(Name other) {
            boolean same = bytes.length == other.bytes.length;
            for (int i = 0; same && i < bytes.length; i++) {
                same = bytes[i] == other.bytes[i];
            }
            return same;
        }

        /** How many labels, from the end, both have. */
        int shared(Name other) {
            int both = Math.min(labels, other.labels);
            int here = tail(both);
            int there = other.tail(both);
            int run = 0;
            for (int left = both; left > 0; left--) {
                int size = bytes[here];
                boolean same = size == other.bytes[there];
                for (int i = 1; same && i <= size; i++) {
                    same = bytes[here + i] == other.bytes[there + i];
                }
                run = same ? run + 1 : 0;
                here += size + 1;
                there += other.bytes[there] + 1;
            }
            return run;
        }

        /**
         * Below 0 if this one comes first, above 0 if the other does. What counts most is looked at last,
         * labels from the front and bytes from the back: so the last difference seen decides.
         */
        int order(Name other) {
            int both = Math.min(labels, other.labels);
            int here = tail(both);
            int there = other.tail(both);
            int decided = labels - other.labels;
            for (int left = both; left > 0; left--) {
                int size = bytes[here];
                int otherSize = other.bytes[there];
                int difference = size - otherSize;
                for (int i = Math.min(size, otherSize); i > 0; i--) {
                    int step = (bytes[here + i] & 255) - (other.bytes[there + i] & 255);
                    difference = step != 0 ? step : difference;
                }
                decided = difference != 0 ? difference : decided;
                here += size + 1;
                there += otherSize + 1;
            }
            return decided;
        }

        /** The star below the last labels, so many. */
        Name star(int depth) {
            int from = tail(depth);
            byte[] row = new byte[2 + bytes.length - from];
            row[0] = 1;
            row[1] = STAR;
            System.arraycopy(bytes, from, row, 2, bytes.length - from);
            return new Name(row);
        }
    }

    /** The data of one record, and the name at its end, or null; it never changes, as answers share it. */
    private static final class Datum {
        final byte[] bytes;
        final Name target;

        Datum(byte[] bytes, Name target) {
            this.bytes = bytes;
            this.target = target;
        }

        int length() {
            return bytes.length;
        }
    }

    private static final class Rrset {
        final int type;
        int time;
        final ArrayList<Datum> data;

        Rrset(int type) {
            this.type = type;
            time = 0;
            data = new ArrayList<>();
        }

        int size() {
            return data.size();
        }

        /** Which of the data the tape has from there on, or -1. */
        int place(Tape tape, int from) {
            for (int i = 0; i < data.size(); i++) {
                if (tape.isSame(from, data.get(i))) {
                    return i;
                }
            }
            return -1;
        }

        Name firstTarget() {
            return data.isEmpty() ? null : data.get(0).target;
        }
    }

    /** A name with records: its sets stand by rising type. */
    private static final class Owner {
        final Name name;
        final ArrayList<Rrset> sets;
        /** Of the cuts that the name is at or below the one nearest to the origin, or null. */
        Owner cut;

        Owner(Name name) {
            this.name = name;
            sets = new ArrayList<>();
            cut = null;
        }

        /** Whether it is a cut that is in the chain. */
        boolean isCut() {
            return cut == this;
        }

        boolean isGivenAway() {
            return cut != null && cut != this;
        }

        Rrset find(int type) {
            for (int i = 0; i < sets.size(); i++) {
                if (sets.get(i).type == type) {
                    return sets.get(i);
                }
            }
            return null;
        }

        Rrset findOrMake(int type) {
            int place = 0;
            while (place < sets.size() && sets.get(place).type < type) {
                place++;
            }
            if (place == sets.size() || sets.get(place).type != type) {
                sets.add(place, new Rrset(type));
            }
            return sets.get(place);
        }

        void drop(Rrset set) {
            for (int i = 0; i < sets.size(); i++) {
                if (sets.get(i) == set) {
                    sets.remove(i);
                    return;
                }
            }
        }

        /** The types that its link tells of, rising. */
        int[] linkTypes() {
            int[] types = new int[sets.size() + 2];
            int used = addTypes(types, 0, 1, TYPE_RRSIG - 1);
            types[used] = TYPE_RRSIG;
            types[used + 1] = TYPE_NSEC;
            used = addTypes(types, used + 2, TYPE_NSEC + 1, TYPE_LAST);
            return Arrays.copyOf(types, used);
        }

        /** Adds its types between the two; a cut's other types belong to those whom it is given to. */
        private int addTypes(int[] types, int from, int least, int most) {
            int used = from;
            for (int i = 0; i < sets.size(); i++) {
                int type = sets.get(i).type;
                boolean counts = !isCut() || type == TYPE_NS || type == TYPE_DS;
                if (counts && type >= least && type <= most) {
                    types[used] = type;
                    used++;
                }
            }
            return used;
        }
    }

    /** The records, by owners in order of their names; the origin is always the first. */
    private static final class Zone {
        private final ArrayList<Owner> owners;
        private Name top;
        private Rrset start;
        private byte[] startData;
        private int records;

        Zone() {
            owners = new ArrayList<>();
        }

        /** A new zone: the data has the two names and the numbers, but for the serial. */
        void begin(Name origin, byte[] data, int time) {
            owners.clear();
            records = 0;
            top = origin;
            startData = data;
            start = insert(origin, TYPE_SOA, new Datum(data, null));
            start.time = time;
            changeSerial(1);
        }

        Name top() {
            return top;
        }

        Rrset start() {
            return start;
        }

        boolean isFull() {
            return records >= MOST_RECORDS;
        }

        int serialNumber() {
            return readNumber(startData, startData.length - START_NUMBERS);
        }

        /** Makes new data, as earlier answers hold the old. */
        void changeSerial(int n) {
            startData = startData.clone();
            writeNumber(startData, startData.length - START_NUMBERS, n);
            start.data.clear();
            start.data.add(new Datum(startData, null));
        }

        /** How many owners come before that name. */
        private int place(Name name) {
            int low = 0;
            int high = owners.size();
            while (low < high) {
                int middle = (low + high) / 2;
                if (owners.get(middle).name.order(name) < 0) {
                    low = middle + 1;
                } else {
                    high = middle;
                }
            }
            return low;
        }

        private boolean isAt(int place, Name name) {
            return place < owners.size() && owners.get(place).name.isSame(name);
        }

        /** The owner of that name, or null; no name has none. */
        Owner at(Name name) {
            if (name == null) {
                return null;
            }
            int place = place(name);
            return isAt(place, name) ? owners.get(place) : null;
        }

        Rrset insert(Name name, int type, Datum datum) {
            int place = place(name);
            if (!isAt(place, name)) {
                owners.add(place, new Owner(name));
            }
            Rrset set = owners.get(place).findOrMake(type);
            set.data.add(datum);
            records++;
            markCuts();
            return set;
        }

        void remove(Owner owner, Rrset set, int place) {
            set.data.remove(place);
            records--;
            if (set.data.isEmpty()) {
                owner.drop(set);
                tidy(owner);
            }
        }

        /** Takes the set of that type, or all but the type 6 one; how many records went. */
        int removeAll(Owner owner, int type) {
            int gone = 0;
            for (int i = owner.sets.size() - 1; i >= 0; i--) {
                Rrset set = owner.sets.get(i);
                if (set.type == type || type == TYPE_ANY && set.type != TYPE_SOA) {
                    gone += set.size();
                    owner.sets.remove(i);
                }
            }
            records -= gone;
            tidy(owner);
            return gone;
        }

        private void tidy(Owner owner) {
            if (owner.sets.isEmpty()) {
                int place = place(owner.name);
                if (place < owners.size()) {
                    owners.remove(place);
                }
            }
            markCuts();
        }

        /** What is below a cut stands right behind it, so one way through the owners is enough. */
        private void markCuts() {
            Owner cut = null;
            for (int i = 1; i < owners.size(); i++) {
                Owner owner = owners.get(i);
                if (cut == null || !owner.name.isAtOrBelow(cut.name)) {
                    cut = owner.find(TYPE_NS) != null ? owner : null;
                }
                owner.cut = cut;
            }
        }

        /**
         * Of the cuts that the name is at or below the one nearest to the origin, or null: the last owner
         * that does not come behind the name is below that cut, too.
         */
        Owner cutOver(Name name) {
            int place = place(name);
            int last = isAt(place, name) ? place : place - 1;
            Owner cut = last < 0 ? null : owners.get(last).cut;
            return cut != null && name.isAtOrBelow(cut.name) ? cut : null;
        }

        /** How many of the name's last labels are a name that is there: in order none shares more than a neighbour. */
        int depth(Name name) {
            int place = place(name);
            int before = place > 0 ? owners.get(place - 1).name.shared(name) : 0;
            int behind = place < owners.size() ? owners.get(place).name.shared(name) : 0;
            return Math.max(before, behind);
        }

        /** Which owner has the link over the name. */
        int linkOver(Name name) {
            return chained(place(name) - 1);
        }

        /** Which owner has the link at the name, if the name is in the chain; else the link over it. */
        int linkAt(Name name) {
            int place = place(name);
            return chained(isAt(place, name) ? place : place - 1);
        }

        /** That owner, or the last one before it that is in the chain; the origin is always in it. */
        private int chained(int place) {
            int found = place;
            while (found > 0 && owners.get(found).isGivenAway()) {
                found--;
            }
            return Math.max(found, 0);
        }

        Name ownerName(int place) {
            return owners.get(place).name;
        }

        /** The time is never below 0, so a minimum that is, without sign, is the greater. */
        int linkTime() {
            int minimum = readNumber(startData, startData.length - 4);
            return minimum < 0 ? start.time : Math.min(start.time, minimum);
        }

        Datum link(int place) {
            int next = place + 1;
            while (next < owners.size() && owners.get(next).isGivenAway()) {
                next++;
            }
            byte[] name = owners.get(next < owners.size() ? next : 0).name.bytes;
            int[] types = owners.get(place).linkTypes();
            byte[] data = Arrays.copyOf(name, name.length + windowsLength(types));
            writeWindows(data, name.length, types);
            return new Datum(data, null);
        }

        /** The last type of each window tells how long the window is. */
        private static int windowsLength(int[] types) {
            int length = 0;
            for (int i = 0; i < types.length; i++) {
                if (i + 1 == types.length || types[i + 1] / 256 != types[i] / 256) {
                    length += 3 + types[i] % 256 / 8;
                }
            }
            return length;
        }

        private static void writeWindows(byte[] data, int from, int[] types) {
            int window = -1;
            int bits = from;
            int end = from;
            for (int i = 0; i < types.length; i++) {
                if (types[i] / 256 != window) {
                    window = types[i] / 256;
                    data[end] = (byte) window;
                    bits = end + 2;
                }
                int at = types[i] % 256 / 8;
                data[bits - 1] = (byte) (at + 1);
                data[bits + at] |= (byte) (128 >> types[i] % 8);
                end = bits + at + 1;
            }
        }

        int recordCount() {
            return records;
        }

        int setCount() {
            int sets = 0;
            for (int i = 0; i < owners.size(); i++) {
                sets += owners.get(i).sets.size();
            }
            return sets;
        }

        int ownerCount() {
            return owners.size();
        }

        /** Each owner brings the names from itself up to those that the one before it has brought. */
        int thereCount() {
            int there = 1;
            for (int i = 1; i < owners.size(); i++) {
                Name name = owners.get(i).name;
                there += name.labels - name.shared(owners.get(i - 1).name);
            }
            return there;
        }

        int chainCount() {
            int chained = 0;
            for (int i = 0; i < owners.size(); i++) {
                chained += owners.get(i).isGivenAway() ? 0 : 1;
            }
            return chained;
        }

        int cutCount() {
            int cuts = 0;
            for (int i = 1; i < owners.size(); i++) {
                cuts += owners.get(i).find(TYPE_NS) != null ? 1 : 0;
            }
            return cuts;
        }
    }

    /** A record of an answer, as it was when the answer was made. */
    private static final class Told {
        final Name name;
        final int type;
        final int time;
        final Datum datum;

        Told(Name name, int type, int time, Datum datum) {
            this.name = name;
            this.type = type;
            this.time = time;
            this.datum = datum;
        }
    }

    private static final class Section {
        private final ArrayList<Told> rows;

        Section() {
            rows = new ArrayList<>();
        }

        void clear() {
            rows.clear();
        }

        int size() {
            return rows.size();
        }

        Told row(int k) {
            return k >= 0 && k < rows.size() ? rows.get(k) : null;
        }

        void add(Told row) {
            rows.add(row);
        }

        void addSet(Name name, Rrset set, int time) {
            for (int i = 0; i < set.size(); i++) {
                rows.add(new Told(name, set.type, time, set.data.get(i)));
            }
        }

        boolean has(Name name, int type) {
            for (int i = 0; i < rows.size(); i++) {
                Told row = rows.get(i);
                if (row.type == type && row.name.isSame(name)) {
                    return true;
                }
            }
            return false;
        }
    }

    /** The last answering: its three sections, and the question while it is answered. */
    private static final class Answer {
        private final Zone zone;
        private final Section answers;
        private final Section authority;
        private final Section more;
        private int type;
        private boolean secure;

        Answer(Zone zone) {
            this.zone = zone;
            answers = new Section();
            authority = new Section();
            more = new Section();
        }

        Section section(int number) {
            switch (number) {
                case 1:
                    return answers;
                case 2:
                    return authority;
                case 3:
                    return more;
                default:
                    return null;
            }
        }

        void begin(int askedType, boolean askedSecure) {
            answers.clear();
            authority.clear();
            more.clear();
            type = askedType;
            secure = askedSecure;
        }

        /** Follows the question from alias to alias to its end; the code. */
        int follow(Name question) {
            if (!question.isAtOrBelow(zone.top())) {
                return CODE_REFUSED;
            }
            Name name = question;
            for (int aliases = 0; aliases < MOST_ALIASES; aliases++) {
                if (name == null || !name.isAtOrBelow(zone.top())) {
                    return CODE_FINE;
                }
                Owner cut = zone.cutOver(name);
                if (cut != null && !(type == TYPE_DS && cut.name.isSame(name))) {
                    refer(cut);
                    return CODE_FINE;
                }
                int depth = zone.depth(name);
                boolean there = depth == name.labels;
                Name found = there ? name : name.star(depth);
                Owner owner = zone.at(found);
                if (!there && owner == null) {
                    deny(name, found);
                    return CODE_NO_NAME;
                }
                Rrset alias = owner == null || type == TYPE_CNAME || type == TYPE_ANY ? null : owner.find(TYPE_CNAME);
                if (alias == null) {
                    tell(name, found, owner);
                    return CODE_FINE;
                }
                answers.addSet(name, alias, alias.time);
                if (!there) {
                    prove(zone.linkOver(name));
                }
                name = alias.firstTarget();
            }
            return CODE_FINE;
        }

        private void refer(Owner cut) {
            Rrset servers = cut.find(TYPE_NS);
            if (servers == null) {
                return;
            }
            authority.addSet(cut.name, servers, servers.time);
            Rrset signer = cut.find(TYPE_DS);
            if (signer == null) {
                prove(zone.linkAt(cut.name));
            } else if (secure) {
                authority.addSet(cut.name, signer, signer.time);
            }
            for (int i = 0; i < servers.size(); i++) {
                addAddressesOf(zone.at(servers.data.get(i).target));
            }
        }

        private void deny(Name name, Name star) {
            addStart();
            prove(zone.linkOver(name));
            prove(zone.linkOver(star));
        }

        /** What the owner of the name that was found has of the type, or that it has none. */
        private void tell(Name name, Name found, Owner owner) {
            if (owner != null) {
                for (int i = 0; i < owner.sets.size(); i++) {
                    Rrset set = owner.sets.get(i);
                    if (type == TYPE_ANY || type == set.type) {
                        answers.addSet(name, set, set.time);
                    }
                }
            }
            boolean none = owner == null || type != TYPE_ANY && owner.find(type) == null;
            if (none) {
                addStart();
                prove(zone.linkAt(found));
            }
            if (!found.isSame(name)) {
                prove(zone.linkOver(name));
            }
        }

        private void addStart() {
            authority.addSet(zone.top(), zone.start(), zone.linkTime());
        }

        /** Adds that owner's link, for those who ask for proofs. */
        private void prove(int place) {
            Name name = zone.ownerName(place);
            if (secure && !authority.has(name, TYPE_NSEC)) {
                authority.add(new Told(name, TYPE_NSEC, zone.linkTime(), zone.link(place)));
            }
        }

        /** Adds the addresses of the names in the answers that are not given away. */
        void addAddresses() {
            for (int i = 0; i < answers.size(); i++) {
                Told row = answers.row(i);
                if (row != null && (row.type == TYPE_NS || row.type == TYPE_MX || row.type == TYPE_SRV)) {
                    Owner owner = zone.at(row.datum.target);
                    addAddressesOf(owner == null || owner.cut != null ? null : owner);
                }
            }
        }

        private void addAddressesOf(Owner owner) {
            addAddressSet(owner, TYPE_A);
            addAddressSet(owner, TYPE_AAAA);
        }

        private void addAddressSet(Owner owner, int addressType) {
            Rrset set = owner == null ? null : owner.find(addressType);
            if (set != null && !more.has(owner.name, addressType) && !answers.has(owner.name, addressType)) {
                more.addSet(owner.name, set, set.time);
            }
        }
    }
}
