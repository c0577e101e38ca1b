import java.util.ArrayList;
import java.util.List;

/** The document's Terms, but for ANSWERING: each sentence that names an edge has a test of its own. */
public final class TermsEdgesTest {
    private static final String BAD = "IllegalArgumentException";
    private static final String LONG_63 = Desk.letters(63) + ".";

    public static void main(String[] args) throws IllegalAccessException {
        Check.all(TermsEdgesTest.class);
    }

    private static Desk zone() {
        Desk desk = new Desk();
        desk.origin("ex.", 3600, 300);
        return desk;
    }

    // The TAPE

    private static void tapeIsEmptyAtFirst() {
        Check.sentence("a row of bytes, at most 65,536, empty at first");
        ZoneAnswers zone = new ZoneAnswers();
        Check.due("count(0)", zone.count(0), 0);
        Check.due("end(1)", Check.of(() -> zone.end(1)), BAD);
        Check.due("state()", Check.of(() -> zone.state()), BAD);
        Check.due("the first feed", zone.feed(0, 0, 0, 0, 0), 20);
    }

    /** Beyond the 512 calls that are promised, but kept all the same. */
    private static void tapeHasAtMost65536() {
        Check.sentence("a row of bytes, at most 65,536");
        Desk desk = new Desk();
        for (int i = 0; i < 3276; i++) {
            desk.zone.feed(0, 0, 0, 0, 0);
        }
        desk.zone.end(65516);
        Check.due("feed up to the last byte", Check.of(() -> desk.zone.feed(0, 0, 0, 0, 7)), 65536);
        Check.due("one more", Check.of(() -> desk.zone.feed(0, 0, 0, 0, 0)), "IllegalStateException");
        Check.due("all of it is a record", Check.of(() -> desk.zone.put(99, 1)), 1);
        desk.ask(".", 99, false);
        Check.due("its last byte", desk.zone.byteOf(1, 0, 65535), 7);
    }

    private static void takingLeavesTheTapeEmpty() {
        Check.sentence("a call that takes the TAPE leaves it empty");
        Desk desk = new Desk();
        String[] calls = {"origin", "put", "put of what is there", "take", "takeAll", "takeAll of none", "ask", "ask of none", "state"};
        Object[] answers = {
            desk.origin("ex.", 1, 1), desk.zone.count(0), desk.put("a.ex.", 99, 1), desk.zone.count(0),
            desk.put("a.ex.", 99, 1), desk.zone.count(0), desk.take("a.ex.", 99), desk.zone.count(0),
            desk.takeAll("ex.", 255), desk.zone.count(0), desk.takeAll("a.ex.", 1), desk.zone.count(0),
            desk.ask("ex.", 1, true), desk.zone.count(0), desk.ask("far.", 1, true), desk.zone.count(0),
            desk.state("ex."), desk.zone.count(0)};
        for (int i = 0; i < calls.length; i++) {
            Check.due("the tape's length behind " + calls[i], answers[2 * i + 1], 0);
        }
    }

    private static void throwingLeavesTheTape() {
        Check.sentence("a call that takes the TAPE leaves it empty, unless it throws");
        Desk desk = zone();
        desk.put("a.ex.", 99, 1);
        desk.tape(Desk.name("A.ex."), Desk.name("Qqq."));
        Object[] thrown = {
            Check.of(() -> {
                desk.zone.origin(1, 1, 1, 1, 1);
                return "done";
            }),
            Check.of(() -> desk.zone.put(1, 1)), Check.of(() -> desk.zone.put(5, 1)), Check.of(() -> desk.zone.take(1)),
            Check.of(() -> desk.zone.take(5)), Check.of(() -> desk.zone.takeAll(5)), Check.of(() -> desk.zone.ask(5, true)),
            Check.of(() -> desk.zone.state()), Check.of(() -> desk.zone.end(12)), Check.of(() -> desk.zone.end(-1))};
        Object[] due = {BAD, BAD, "UnsupportedOperationException", BAD, "NoSuchElementException", BAD, BAD, BAD, BAD, BAD};
        for (int i = 0; i < due.length; i++) {
            Check.due("call " + i, thrown[i], due[i]);
        }
        Check.due("the tape's length", desk.zone.count(0), 11);
        Check.due("put of the same tape", Check.of(() -> desk.zone.put(98, 1)), 1);
        Check.due("its bytes are as they came", desk.answer("a.ex.", 98, false), "0 | a.ex. 98 1 #0351717100 | - | -");
    }

    // NAMES

    /** Which of all the places where a name comes refuse these bytes: all, none, or a list of them. */
    private static String refusedBy(byte[] name) {
        List<String> refused = new ArrayList<>();
        byte[] root = new byte[1];
        String[] places = {"state", "ask", "takeAll", "put", "take", "first of origin", "second of origin", "third of origin"};
        Object[] answers = {
            Check.of(() -> new Desk().tape(name).zone.state()), Check.of(() -> new Desk().tape(name).zone.ask(1, false)),
            Check.of(() -> new Desk().tape(name).zone.takeAll(1)), Check.of(() -> new Desk().tape(name).zone.put(99, 1)),
            Check.of(() -> new Desk().tape(name).zone.take(99)), new Desk().originOf(1, 1, name, root, root),
            new Desk().originOf(1, 1, root, name, root), new Desk().originOf(1, 1, root, root, name)};
        for (int i = 0; i < places.length; i++) {
            if (answers[i].equals(BAD)) {
                refused.add(places[i]);
            }
        }
        int[] types = {2, 5, 12, 15, 33};
        for (int type : types) {
            byte[] before = new byte[type == 15 ? 2 : type == 33 ? 6 : 0];
            if (new Desk().put("n.", type, 1, before, name).equals(BAD)) {
                refused.add("data of " + type);
            }
            if (new Desk().take("n.", type, before, name).equals(BAD)) {
                refused.add("data of " + type + " that is taken");
            }
        }
        int all = places.length + 2 * types.length;
        return refused.isEmpty() ? "none" : refused.size() == all ? "all" : refused.toString();
    }

    private static void labelsOf1To63() {
        Check.sentence("labels of 1 to 63 bytes, each with its length before it");
        Check.due("a label of 1", refusedBy(Desk.bytes(1, 'a', 0)), "none");
        Check.due("a label of 63", refusedBy(Desk.name(LONG_63)), "none");
        Check.due("labels of 63 and 1", refusedBy(Desk.name(LONG_63 + "a.")), "none");
        for (int size : new int[] {64, 65, 127, 128, 129, 191, 192, 193, 255}) {
            Check.due("a label of " + size, refusedBy(Desk.join(Desk.bytes(size), new byte[size], new byte[1])), "all");
            Check.due("a second label of " + size, refusedBy(Desk.join(Desk.bytes(1, 'a', size), new byte[size], new byte[1])), "all");
        }
        byte[] pointsBack = Desk.join(Desk.bytes(63), new byte[63], Desk.bytes(63, 63), new byte[62], Desk.bytes(192, 0));
        Check.due("a length of 192 that, with a sign, leads back to a label and on to the 0", refusedBy(pointsBack), "all");
    }

    /** "a.b." and the one label of three bytes, 'a', 1 and 'b', differ in their first length alone. */
    private static void lengthsTellNamesApart() {
        Check.sentence("labels ..., each with its length before it (other lengths are other names)");
        Desk desk = new Desk();
        desk.put("a.b.", 99, 1);
        Check.due("state", desk.state("a\u0001b."), 1);
        Check.due("ask", desk.ask("a\u0001b.", 99, false), 3);
        Check.due("take", desk.take("a\u0001b.", 99), "NoSuchElementException");
        Check.due("takeAll", desk.takeAll("a\u0001b.", 99), 0);
        Check.due("put", desk.put("a\u0001b.", 99, 1), 1);
        Check.due("names with records", desk.zone.count(3), 3);
        Check.due("it goes", desk.take("a\u0001b.", 99), 0);
        Check.due("the other stays", desk.state("a.b."), 3);
    }

    private static void zeroAtTheEnd() {
        Check.sentence("each with its length before it, and a 0 at the end");
        Check.due("only the 0", refusedBy(Desk.bytes(0)), "none");
        Check.due("a 0 in a label", refusedBy(Desk.bytes(1, 0, 0)), "none");
        Check.due("nothing", refusedBy(Desk.bytes()), "all");
        Check.due("a length alone", refusedBy(Desk.bytes(1)), "all");
        Check.due("a label alone", refusedBy(Desk.bytes(1, 'a')), "all");
        Check.due("a label that has the 0 in it", refusedBy(Desk.bytes(2, 'a', 0)), "all");
        Check.due("a last label that has the 0 in it", refusedBy(Desk.bytes(1, 'a', 2, 'b', 0)), "all");
        Check.due("a label of 63 that is cut off", refusedBy(Desk.join(Desk.bytes(63), new byte[62])), "all");
    }

    private static void atMost255() {
        Check.sentence("at most 255 bytes in all");
        String most = LONG_63 + LONG_63 + LONG_63;
        Check.due("254", refusedBy(Desk.name(most + Desk.letters(60) + ".")), "none");
        Check.due("255", refusedBy(Desk.name(most + Desk.letters(61) + ".")), "none");
        Check.due("256", refusedBy(Desk.name(most + Desk.letters(62) + ".")), "all");
        Check.due("257", refusedBy(Desk.name(most + LONG_63)), "all");
        Check.due("255 of 127 labels", refusedBy(Desk.name("a.".repeat(127))), "none");
        Check.due("256 of 127 labels", refusedBy(Desk.name("a.".repeat(126) + "aa.")), "all");
        Check.due("257 of 128 labels", refusedBy(Desk.name("a.".repeat(128))), "all");
    }

    /** The letters at the edges, and what lies beside them, also with the highest bit set. */
    private static final String EDGES = "@AZ[`az{\u00c1\u00da";
    private static final String LOW_EDGES = "@az[`az{\u00c1\u00da";

    private static void lettersInNames() {
        Check.sentence("A .. Z become a .. z in all names that come");
        Desk desk = new Desk();
        desk.put(EDGES + ".", 99, 1);
        Check.due("put", desk.answer(LOW_EDGES + ".", 99, false), "0 | " + LOW_EDGES + ". 99 1 # | - | -");
        Check.due("ask", desk.answer(EDGES + ".", 99, false), "0 | " + LOW_EDGES + ". 99 1 # | - | -");
        Check.due("state", desk.state(EDGES + "."), 3);
        Check.due("put again", desk.put(LOW_EDGES + ".", 99, 1), 1);
        Check.due("take", desk.take(EDGES + ".", 99), 0);
        desk.put(LOW_EDGES + ".", 99, 1);
        Check.due("takeAll", desk.takeAll(EDGES + ".", 99), 1);
        desk.put("*.", 99, 1);
        Check.due("ask by a star", desk.answer(EDGES + ".", 99, false), "0 | " + LOW_EDGES + ". 99 1 # | - | -");
        desk.originOf(1, 1, Desk.name(EDGES + "."), Desk.name(EDGES + ".b."), Desk.name("B." + EDGES + "."));
        Check.due("origin", desk.answer(LOW_EDGES + ".", 6, false), "0 | " + LOW_EDGES + ". 6 1 " + LOW_EDGES + ".b. b." + LOW_EDGES
                + ". 1 7200 900 1209600 1 | - | -");
    }

    private static void lettersInData() {
        Check.sentence("A .. Z become a .. z in all names that come, in data too");
        String[] low = {LOW_EDGES + ".", LOW_EDGES + ".", LOW_EDGES + ".", "#4142 " + LOW_EDGES + ".", "#414243444546 " + LOW_EDGES + "."};
        int[] types = {2, 5, 12, 15, 33};
        byte[][] before = {{}, {}, {}, {'A', 'B'}, {'A', 'B', 'C', 'D', 'E', 'F'}};
        for (int i = 0; i < types.length; i++) {
            Desk desk = zone();
            String name = types[i] == 2 ? "ex." : "n.ex.";
            desk.put(name, types[i], 1, before[i], Desk.name(EDGES + "."));
            desk.ask(name, types[i], false);
            Check.due("data of " + types[i], desk.section(1), name + " " + types[i] + " 1 " + low[i]);
            Check.due("put of the same", desk.put(name, types[i], 1, before[i], Desk.name(LOW_EDGES + ".")), 1);
            Check.due("take of the same", desk.take(name, types[i], before[i], Desk.name(EDGES + ".")), 0);
        }
        Desk desk = zone();
        desk.put("n.ex.", 5, 1, Desk.name("M.EX."));
        desk.put("m.ex.", 99, 1);
        Check.due("an alias by its letters", desk.answer("n.ex.", 99, false), "0 | n.ex. 5 1 m.ex.; m.ex. 99 1 # | - | -");
    }

    private static void lettersElsewhereStay() {
        Check.sentence("A .. Z become a .. z in all names that come, in data too (and nowhere else)");
        Desk desk = new Desk();
        byte[] letters = {'A', 'Z', 'a', 'z'};
        byte[] low = {'a', 'z', 'a', 'z'};
        int[] types = {1, 16, 99, 65535};
        for (int type : types) {
            byte[] before = type == 16 ? Desk.bytes(4) : Desk.bytes();
            desk.put("n.", type, 1, before, letters);
            Check.due("data of " + type + " again", desk.put("n.", type, 1, before, letters), 1);
            Check.due("data of " + type + " in other letters is other data", desk.put("n.", type, 1, before, low), 2);
            Check.due("take of it", desk.take("n.", type, before, low), 1);
            desk.ask("n.", type, false);
            Check.due("the bytes", desk.section(1), "n. " + type + " 1 #" + (type == 16 ? "04" : "") + "415a617a");
        }
        desk.put("n.", 15, 1, Desk.bytes('A', 'B'), Desk.name("m."));
        Check.due("the numbers of 15", desk.put("n.", 15, 1, Desk.bytes('A', 'b'), Desk.name("m.")), 2);
        Check.due("the numbers of 15 again", desk.put("n.", 15, 1, Desk.bytes('A', 'B'), Desk.name("m.")), 2);
        Check.due("they", desk.answer("n.", 15, false), "0 | n. 15 1 #4142 m.; n. 15 1 #4162 m. | - | -");
        desk.put("n.", 33, 1, Desk.bytes('A', 'A', 'A', 'A', 'A', 'A'), Desk.name("m."));
        Check.due("the numbers of 33", desk.put("n.", 33, 1, Desk.bytes('A', 'A', 'A', 'A', 'A', 'a'), Desk.name("m.")), 2);
    }

    private static void atOrBelowLabelByLabel() {
        Check.sentence("A name is AT OR BELOW another if that is its end, label by label");
        Desk desk = new Desk();
        desk.origin("bb.c.", 1, 1);
        String[] names = {"bb.c.", "a.bb.c.", "bb.c.bb.c.", "c.", ".", "abb.c.", "b.c.", "bb.c.c.", "bb.cc.", "bb.d.", "a.bc.c."};
        int[] due = {3, 1, 1, 0, 0, 0, 0, 0, 0, 0, 0};
        for (int i = 0; i < names.length; i++) {
            Check.due("state of " + names[i], desk.state(names[i]), due[i]);
        }
        byte[] end = Desk.name("bb.c.");
        Check.due("its bytes in one label", Check.of(() -> desk.tape(Desk.bytes(6, 'x'), end).zone.state()), 0);
        Check.due("its bytes across two labels", Check.of(() -> desk.tape(Desk.bytes(4, 'x'), end).zone.state()), 0);
        Check.due("and a label more", Check.of(() -> desk.tape(Desk.bytes(1, 'y', 4, 'x'), end).zone.state()), 0);
        Check.due("all names are below the root", new Desk().state("a.b."), 1);
    }

    // ORDER

    /** Whether the first comes right before the second: its link has the other as its next name. */
    private static void inOrder(String first, String second) {
        for (boolean turned : new boolean[] {false, true}) {
            Desk desk = new Desk();
            desk.put(turned ? second : first, 99, 1);
            desk.put(turned ? first : second, 99, 1);
            desk.ask(first, 1, true);
            Check.due("the name behind " + first, desk.record(2, 1), first + " 47 0 " + second + " 46 47 99");
            desk.ask(second, 1, true);
            Check.due("the name behind " + second, desk.record(2, 1), second + " 47 0 . 46 47 99");
        }
    }

    private static void orderFromTheEnd() {
        Check.sentence("ORDER of names: label by label from the end");
        inOrder("z.a.", "a.b.");
        inOrder("z.y.a.", "b.");
        inOrder("z.a.c.", "a.b.c.");
        inOrder("z.a.", "y.aa.");
    }

    private static void orderOfTheOthersEnd() {
        Check.sentence("a name that is all of the other's end comes first");
        inOrder("b.", "a.b.");
        inOrder("b.", "\u0000.b.");
        inOrder("b.c.", "a.a.b.c.");
        inOrder("z.", "a.a.z.");
    }

    private static void orderByteByByte() {
        Check.sentence("labels byte by byte (0 .. 255)");
        inOrder("\u0000.", "\u0001.");
        inOrder("\u007f.", "\u0080.");
        inOrder("a.", "\u00e1.");
        inOrder("\u00fe.", "\u00ff.");
        inOrder("a\u007fz.", "a\u0080a.");
        inOrder("ab.", "b.");
        inOrder("azz.", "b.");
    }

    private static void orderOfShorterLabels() {
        Check.sentence("a shorter one that is the other's beginning first");
        inOrder("a.", "aa.");
        inOrder("a.", "a\u0000.");
        inOrder("z.a.", "a\u0000.");
        inOrder("b.a.c.", "b.aa.c.");
    }

    // DATA

    private static void data(int type, Object due, byte[]... data) {
        String call = "data of type " + type + " with " + Desk.join(data).length + " bytes";
        Check.due("put, " + call, new Desk().put("n.", type, 1, data), due);
        Check.due("take, " + call, new Desk().take("n.", type, data), due.equals(1) ? "NoSuchElementException" : due);
    }

    private static void dataOf1() {
        Check.sentence("1: 4 bytes");
        data(1, BAD);
        data(1, BAD, new byte[3]);
        data(1, 1, new byte[4]);
        data(1, BAD, new byte[5]);
        data(1, BAD, new byte[16]);
    }

    private static void dataOf28() {
        Check.sentence("28: 16");
        data(28, BAD);
        data(28, BAD, new byte[4]);
        data(28, BAD, new byte[15]);
        data(28, 1, new byte[16]);
        data(28, BAD, new byte[17]);
    }

    private static void dataOf2And5And12() {
        Check.sentence("2, 5, 12: a name");
        for (int type : new int[] {2, 5, 12}) {
            data(type, BAD);
            data(type, 1, Desk.name("."));
            data(type, 1, Desk.name("a.b."));
            data(type, BAD, Desk.bytes(1, 'a'));
            data(type, BAD, Desk.name("a."), new byte[1]);
            data(type, BAD, Desk.name("."), Desk.name("."));
            data(type, BAD, new byte[2], Desk.name("a."));
        }
    }

    private static void dataOf15() {
        Check.sentence("15: 2 bytes, a name");
        data(15, BAD);
        data(15, BAD, new byte[1]);
        data(15, BAD, new byte[2]);
        data(15, 1, new byte[2], Desk.name("."));
        data(15, 1, Desk.bytes(255, 255), Desk.name("a."));
        data(15, BAD, Desk.bytes(9), Desk.name("ab."));
        data(15, BAD, new byte[3], Desk.name("a."));
        data(15, BAD, new byte[2], Desk.name("a."), new byte[1]);
        data(15, BAD, new byte[2], Desk.bytes(1, 'a'));
    }

    private static void dataOf33() {
        Check.sentence("33: 6 bytes, a name");
        data(33, BAD);
        data(33, BAD, new byte[5]);
        data(33, BAD, new byte[6]);
        data(33, 1, new byte[6], Desk.name("."));
        data(33, 1, Desk.bytes(255, 255, 255, 255, 255, 255), Desk.name("a."));
        data(33, BAD, new byte[5], Desk.name("ab."));
        data(33, BAD, new byte[7], Desk.name("a."));
        data(33, BAD, new byte[6], Desk.name("a."), new byte[1]);
        data(33, BAD, new byte[6], Desk.bytes(1, 'a'));
    }

    private static void dataOf16() {
        Check.sentence("16: one or more strings (a length 0 .. 255 and so many bytes)");
        data(16, BAD);
        data(16, 1, Desk.bytes(0));
        data(16, 1, Desk.bytes(0, 0));
        data(16, 1, Desk.bytes(1, 'a', 0, 2, 'b', 'c'));
        data(16, 1, Desk.bytes(127), new byte[127]);
        data(16, 1, Desk.bytes(128), new byte[128]);
        data(16, 1, Desk.bytes(255), new byte[255]);
        data(16, 1, Desk.bytes(255), new byte[255], Desk.bytes(255), new byte[255]);
        data(16, BAD, Desk.bytes(1));
        data(16, BAD, Desk.bytes(0, 1));
        data(16, BAD, Desk.bytes(2, 'a'));
        data(16, BAD, Desk.bytes(128), new byte[127]);
        data(16, BAD, Desk.bytes(255), new byte[254]);
        data(16, BAD, Desk.bytes(1, 'a', 3, 'b', 'c'));
    }

    private static void dataOfOthers() {
        Check.sentence("Others: any");
        for (int type : new int[] {3, 4, 7, 11, 13, 14, 17, 27, 29, 32, 34, 43, 256, 257, 261, 271, 65535}) {
            data(type, 1);
            data(type, 1, Desk.bytes(255));
            data(type, 1, new byte[3000]);
        }
    }

    /** Beyond the 512 calls that are promised, but kept all the same. */
    private static void dataOf65535() {
        Check.sentence("at most 65,535 bytes");
        Desk desk = new Desk();
        Check.due("put of 65,535 bytes", desk.put(".", 99, 1, new byte[65535]), 1);
        desk.ask(".", 99, false);
        Check.due("bytes of its data", desk.zone.told(1, 0, 3), 65535);
        Check.due("take of them", desk.take(".", 99, new byte[65535]), 0);
    }

    private static void numbersHighestByteFirst() {
        Check.sentence("Numbers in data: the highest byte first");
        Desk desk = new Desk();
        desk.tape(Desk.name("."), Desk.name("."), Desk.name("."));
        desk.zone.origin(1, 0x01020304, 0xFFFEFDFC, 0x80000001, 0x7F0080FF);
        desk.zone.serial(0xA0B0C0D0);
        desk.ask(".", 6, false);
        int[] due = {0xA0, 0xB0, 0xC0, 0xD0, 1, 2, 3, 4, 0xFF, 0xFE, 0xFD, 0xFC, 0x80, 0, 0, 1, 0x7F, 0, 0x80, 0xFF};
        for (int i = 0; i < due.length; i++) {
            Check.due("byte " + i + " of the numbers", desk.zone.byteOf(1, 0, 3 + i), due[i]);
        }
    }

    // THE ZONE

    private static void oneTimeAndTheOrderInWhichTheyCame() {
        Check.sentence("an RRSET, with one TIME and their data in the order in which they came");
        Desk desk = new Desk();
        desk.put("a.", 99, 1, Desk.bytes(9));
        desk.put("a.", 98, 7, Desk.bytes(9));
        desk.put("a.", 99, 2, Desk.bytes(3));
        desk.put("a.", 99, 3, Desk.bytes(6));
        Check.due("three", desk.answer("a.", 99, false), "0 | a. 99 3 #09; a. 99 3 #03; a. 99 3 #06 | - | -");
        desk.put("a.", 99, 4, Desk.bytes(9));
        Check.due("the first put again keeps its place", desk.answer("a.", 99, false), "0 | a. 99 4 #09; a. 99 4 #03; a. 99 4 #06 | - | -");
        desk.take("a.", 99, Desk.bytes(9));
        desk.put("a.", 99, 5, Desk.bytes(9));
        Check.due("taken and put again it is the last", desk.answer("a.", 99, false), "0 | a. 99 5 #03; a. 99 5 #06; a. 99 5 #09 | - | -");
        Check.due("another type has its own", desk.answer("a.", 98, false), "0 | a. 98 7 #09 | - | -");
    }

    private static void noTwoTheSame() {
        Check.sentence("(no two the same)");
        Desk desk = new Desk();
        desk.put("a.", 99, 1, Desk.bytes(1, 2));
        Check.due("the same", desk.put("a.", 99, 1, Desk.bytes(1, 2)), 1);
        Check.due("its beginning", desk.put("a.", 99, 1, Desk.bytes(1)), 2);
        Check.due("nothing", desk.put("a.", 99, 1), 3);
        Check.due("nothing again", desk.put("a.", 99, 1), 3);
        Check.due("one byte more", desk.put("a.", 99, 1, Desk.bytes(1, 2, 0)), 4);
        Check.due("another last byte", desk.put("a.", 99, 1, Desk.bytes(1, 3)), 5);
        Check.due("the same at another name", desk.put("b.", 99, 1, Desk.bytes(1, 2)), 1);
        Check.due("the same of another type", desk.put("a.", 98, 1, Desk.bytes(1, 2)), 1);
        Check.due("records", desk.zone.count(1), 8);
    }

    private static void thereByANameBelow() {
        Check.sentence("A name is THERE if ... it, or a name below it, has RECORDS");
        Desk desk = zone();
        desk.put("a.b.c.ex.", 99, 1);
        String[] names = {"ex.", "c.ex.", "b.c.ex.", "a.b.c.ex.", "z.a.b.c.ex.", "a.c.ex.", "bb.c.ex.", "b.ex."};
        int[] due = {3, 2, 2, 3, 1, 1, 1, 1};
        for (int i = 0; i < names.length; i++) {
            Check.due("state of " + names[i], desk.state(names[i]), due[i]);
        }
        Check.due("count(4)", desk.zone.count(4), 4);
        desk.put("c.ex.", 99, 1);
        desk.takeAll("a.b.c.ex.", 99);
        Check.due("when the one below went: c.ex.", desk.state("c.ex."), 3);
        Check.due("when the one below went: b.c.ex.", desk.state("b.c.ex."), 1);
        Check.due("count(4) then", desk.zone.count(4), 2);
    }

    private static void nothingIsThereAboveTheOrigin() {
        Check.sentence("A name is THERE if it is AT OR BELOW the ORIGIN");
        Desk desk = new Desk();
        desk.origin("a.b.c.", 1, 1);
        Check.due("count(4)", desk.zone.count(4), 1);
        Check.due("the name above", desk.state("b.c."), 0);
        desk.put("z.y.a.b.c.", 99, 1);
        Check.due("count(4) with two below", desk.zone.count(4), 3);
    }

    private static void alwaysOneOfType6() {
        Check.sentence("At the ORIGIN is always one RECORD of type 6");
        Desk desk = zone();
        byte[] another = Desk.join(Desk.name("."), Desk.name("."), new byte[20]);
        Check.due("put", desk.put("ex.", 6, 1, another), BAD);
        Check.due("takeAll(6)", desk.takeAll("ex.", 6), BAD);
        Check.due("takeAll(255)", desk.takeAll("ex.", 255), 0);
        byte[] same = Desk.join(Desk.name("ns.ex."), Desk.name("adm."), Desk.bytes(0, 0, 0, 1, 0, 0, 0x1C, 0x20, 0, 0, 3, 0x84),
                Desk.bytes(0, 0x12, 0x75, 0, 0, 0, 1, 0x2C));
        Check.due("take", desk.take("ex.", 6, same), BAD);
        Check.due("it", desk.answer("ex.", 6, false), "0 | ex. 6 3600 ns.ex. adm. 1 7200 900 1209600 300 | - | -");
        Check.due("records", desk.zone.count(1), 1);
    }

    private static void typesThatArePut() {
        Check.sentence("TYPES that are put: 1 .. 65535 without 6, 41, 46, 47, 48 and 249 .. 255");
        for (int type = -1; type <= 258; type++) {
            boolean isNone = type < 1 || type == 6 || type == 41 || type >= 46 && type <= 48 || type >= 249 && type <= 255;
            typeIsPut(type, !isNone);
        }
        for (int type : new int[] {511, 512, 32767, 32768, 65534, 65535}) {
            typeIsPut(type, true);
        }
        for (int type : new int[] {65536, 65537, 131071, 1 << 24, Integer.MAX_VALUE, Integer.MIN_VALUE, -65535}) {
            typeIsPut(type, false);
        }
    }

    private static byte[] dataFor(int type) {
        switch (type) {
            case 1:
                return new byte[4];
            case 28:
                return new byte[16];
            case 15:
                return new byte[3];
            case 33:
                return new byte[7];
            default:
                return new byte[1];
        }
    }

    private static void typeIsPut(int type, boolean isPut) {
        Desk desk = new Desk();
        Check.due("take(" + type + ")", desk.take("n.", type, dataFor(type)), isPut ? "NoSuchElementException" : BAD);
        Check.due("put(" + type + ")", desk.put("n.", type, 1, dataFor(type)), isPut ? 1 : BAD);
        Check.due("takeAll(" + type + ")", desk.takeAll("n.", type), type == 255 ? 0 : isPut ? 1 : BAD);
    }

    // CUTS

    private static void originIsNoCut() {
        Check.sentence("A CUT is a name other than the ORIGIN with RECORDS of type 2");
        Desk desk = zone();
        desk.put("ex.", 2, 1, Desk.name("far."));
        desk.put("a.ex.", 99, 1);
        Check.due("state of the origin", desk.state("ex."), 3);
        Check.due("state below it", desk.state("a.ex."), 3);
        Check.due("cuts", desk.zone.count(6), 0);
        Check.due("the chain", desk.zone.count(5), 2);
        Check.due("its records are answered", desk.answer("a.ex.", 99, true), "0 | a.ex. 99 1 # | - | -");
    }

    private static void cutByType2Alone() {
        Check.sentence("A CUT is a name ... with RECORDS of type 2");
        Desk desk = zone();
        desk.put("s.ex.", 43, 1);
        desk.put("s.ex.", 12, 1, Desk.name("far."));
        Check.due("without 2", desk.state("s.ex.") + " " + desk.zone.count(6), "3 0");
        desk.put("s.ex.", 2, 1, Desk.name("far."));
        desk.put("s.ex.", 2, 1, Desk.name("farther."));
        Check.due("with two of 2", desk.state("s.ex.") + " " + desk.zone.count(6), "4 1");
        desk.take("s.ex.", 2, Desk.name("far."));
        Check.due("with one of 2", desk.state("s.ex.") + " " + desk.zone.count(6), "4 1");
        desk.take("s.ex.", 2, Desk.name("farther."));
        Check.due("when the last went", desk.state("s.ex.") + " " + desk.zone.count(6), "3 0");
    }

    private static void cutItselfIsNotGivenAway() {
        Check.sentence("A name is GIVEN AWAY if it is below a CUT (not the CUT itself)");
        Desk desk = zone();
        desk.put("b.s.ex.", 99, 1);
        desk.put("t.s.ex.", 2, 1, Desk.name("far."));
        desk.put("a.t.s.ex.", 99, 1);
        desk.put("ss.ex.", 99, 1);
        Check.due("before", desk.state("b.s.ex.") + " " + desk.state("t.s.ex.") + " " + desk.state("a.t.s.ex."), "3 4 5");
        desk.put("s.ex.", 2, 1, Desk.name("far."));
        Check.due("the cut itself", desk.state("s.ex."), 4);
        Check.due("below", desk.state("b.s.ex."), 5);
        Check.due("a cut below a cut", desk.state("t.s.ex."), 5);
        Check.due("below both", desk.state("a.t.s.ex."), 5);
        Check.due("beside", desk.state("ss.ex."), 3);
        Check.due("cuts", desk.zone.count(6), 2);
        desk.takeAll("s.ex.", 2);
        Check.due("when the upper went", desk.state("b.s.ex.") + " " + desk.state("t.s.ex.") + " " + desk.state("a.t.s.ex."), "3 4 5");
    }

    // THE CHAIN

    /** The link at a name that has records and none of type 41. */
    private static String link(Desk desk, String name) {
        desk.ask(name, 41, true);
        return desk.record(2, 1);
    }

    private static void chainLeavesOutWhatIsGivenAway() {
        Check.sentence("THE CHAIN: all names with RECORDS that are not GIVEN AWAY, in ORDER");
        Desk desk = zone();
        desk.put("a.ex.", 99, 1);
        desk.put("x.b.ex.", 99, 1);
        desk.put("s.ex.", 2, 1, Desk.name("far."));
        desk.put("g.s.ex.", 99, 1);
        desk.put("h.s.ex.", 2, 1, Desk.name("far."));
        desk.put("t.ex.", 99, 1);
        Check.due("count(5)", desk.zone.count(5), 5);
        Check.due("at the origin", link(desk, "ex."), "ex. 47 300 a.ex. 6 46 47");
        Check.due("names without records are none", link(desk, "a.ex."), "a.ex. 47 300 x.b.ex. 46 47 99");
        Check.due("a cut is one", link(desk, "x.b.ex."), "x.b.ex. 47 300 s.ex. 46 47 99");
        desk.ask("s.ex.", 43, true);
        Check.due("what is given away is none", desk.record(2, 1), "s.ex. 47 300 t.ex. 2 46 47");
        desk.takeAll("t.ex.", 99);
        desk.ask("s.ex.", 43, true);
        Check.due("nor at the end", desk.record(2, 1), "s.ex. 47 300 ex. 2 46 47");
    }

    private static String linkTime(int time, int minimum) {
        Desk desk = new Desk();
        desk.origin("ex.", time, minimum);
        desk.ask("ex.", 1, true);
        return desk.zone.told(2, 0, 1) + " " + desk.zone.told(2, 1, 1);
    }

    private static void linkTimeIsTheLesser() {
        Check.sentence("TIME the lesser of the type 6 RECORD's and MINIMUM");
        Check.due("99 of 100", linkTime(100, 99), "99 99");
        Check.due("both 100", linkTime(100, 100), "100 100");
        Check.due("101 of 100", linkTime(100, 101), "100 100");
        Check.due("no time", linkTime(0, 5), "0 0");
        Check.due("no minimum", linkTime(5, 0), "0 0");
    }

    private static void linkTimeWithoutSign() {
        Check.sentence("MINIMUM (without sign)");
        Check.due("the greatest with sign", linkTime(2147483647, 2147483647), "2147483647 2147483647");
        Check.due("one more", linkTime(2147483647, Integer.MIN_VALUE), "2147483647 2147483647");
        Check.due("the greatest", linkTime(100, -1), "100 100");
        Check.due("the greatest over no time", linkTime(0, -1), "0 0");
    }

    private static void behindTheLastTheFirst() {
        Check.sentence("the next name of THE CHAIN (behind the last the first)");
        Desk desk = zone();
        Check.due("of one name", link(desk, "ex."), "ex. 47 300 ex. 6 46 47");
        desk.put("a.ex.", 99, 1);
        Check.due("the first", link(desk, "ex."), "ex. 47 300 a.ex. 6 46 47");
        Check.due("the last", link(desk, "a.ex."), "a.ex. 47 300 ex. 46 47 99");
        Desk root = new Desk();
        root.put("a.", 99, 1);
        Check.due("the root behind the last", link(root, "a."), "a. 47 0 . 46 47 99");
    }

    private static void linkTypesHave46And47() {
        Check.sentence("then the types there, 46 and 47 among them");
        Desk desk = zone();
        for (int type : new int[] {49, 45, 256, 1, 248, 43}) {
            desk.put("n.ex.", type, 1, dataFor(type));
        }
        Check.due("the types around them", link(desk, "n.ex."), "n.ex. 47 300 ex. 1 43 45 46 47 49 248 256");
        desk.takeAll("n.ex.", 45);
        Check.due("one less", link(desk, "n.ex."), "n.ex. 47 300 ex. 1 43 46 47 49 248 256");
        desk.put("ex.", 2, 1, Desk.name("far."));
        desk.put("ex.", 99, 1);
        Check.due("all of the origin's, which is no cut", link(desk, "ex."), "ex. 47 300 n.ex. 2 6 46 47 99");
    }

    private static void linkTypesOfACut() {
        Check.sentence("(of a CUT only 2 and 43 count besides)");
        Desk desk = zone();
        for (int type : new int[] {1, 42, 44, 99, 258, 65535}) {
            desk.put("s.ex.", type, 1, dataFor(type));
        }
        desk.put("s.ex.", 2, 1, Desk.name("far."));
        desk.ask("s.ex.", 43, true);
        Check.due("without 43", desk.record(2, 1), "s.ex. 47 300 ex. 2 46 47");
        desk.put("s.ex.", 43, 1);
        desk.ask("t.ex.", 1, true);
        Check.due("with 43", desk.record(2, 1), "s.ex. 47 300 ex. 2 43 46 47");
        desk.takeAll("s.ex.", 2);
        Check.due("when it is no cut", link(desk, "s.ex."), "s.ex. 47 300 ex. 1 42 43 44 46 47 99 258 65535");
    }

    /** The windows of the link at a name with records of these types. */
    private static String windows(int... types) {
        Desk desk = new Desk();
        for (int type : types) {
            desk.put("a.", type, 1, dataFor(type));
        }
        desk.ask("a.", 41, true);
        StringBuilder text = new StringBuilder();
        for (int i = 1; i < desk.zone.told(2, 1, 3); i++) {
            text.append(i == 1 ? "" : " ").append(desk.zone.byteOf(2, 1, desk.zone.told(2, 1, 2) + i));
        }
        return text.toString();
    }

    private static void windowsFromTheLeast() {
        Check.sentence("in windows: for each 256 types, from the least, that have one: the window's number");
        Check.due("256", windows(256), "0 6 0 0 0 0 0 3 1 1 128");
        Check.due("512 and 256", windows(512, 256), "0 6 0 0 0 0 0 3 1 1 128 2 1 128");
        Check.due("767 and 768", windows(768, 767), "0 6 0 0 0 0 0 3 2 32" + " 0".repeat(31) + " 1 3 1 128");
        Check.due("127 * 256 and 128 * 256", windows(32768, 32512), "0 6 0 0 0 0 0 3 127 1 128 128 1 128");
        Check.due("65280", windows(65280), "0 6 0 0 0 0 0 3 255 1 128");
        Check.due("65535", windows(65535), "0 6 0 0 0 0 0 3 255 32" + " 0".repeat(31) + " 1");
    }

    private static void bitsOfAWindow() {
        Check.sentence("type t is bit 7 - t % 8 of byte t / 8 in it");
        for (int i = 0; i < 8; i++) {
            Check.due("type " + (264 + i), windows(264 + i), "0 6 0 0 0 0 0 3 1 2 0 " + (128 >> i));
        }
        Check.due("1, 7 and 8", windows(8, 7, 1), "0 6 65 128 0 0 0 3");
        Check.due("40, 45 and 49", windows(49, 45, 40), "0 7 0 0 0 0 0 135 64");
        Check.due("263 and 264", windows(264, 263), "0 6 0 0 0 0 0 3 1 2 1 128");
    }

    private static void noZeroBytesAtTheEnd() {
        Check.sentence("how many bytes, and the bits: ... no 0 bytes at its end");
        Check.due("47 is the last", windows(1), "0 6 64 0 0 0 0 3");
        Check.due("55 is the last", windows(55), "0 7 0 0 0 0 0 3 1");
        Check.due("56 is the last", windows(56), "0 8 0 0 0 0 0 3 0 128");
        Check.due("248 is the last", windows(248), "0 32 0 0 0 0 0 3" + " 0".repeat(25) + " 128");
        Check.due("503 is the last", windows(503), "0 6 0 0 0 0 0 3 1 31" + " 0".repeat(30) + " 1");
        Check.due("504 is the last", windows(504), "0 6 0 0 0 0 0 3 1 32" + " 0".repeat(31) + " 128");
    }

    private static void linkOverIsTheLastBefore() {
        Check.sentence("The LINK over a name: that of the last name of THE CHAIN that comes before it");
        Desk desk = zone();
        desk.put("b.ex.", 99, 1);
        desk.put("d.ex.", 2, 1, Desk.name("far."));
        desk.put("z.d.ex.", 99, 1);
        desk.put("f.ex.", 99, 1);
        String[] asked = {"a.ex.", "bb.ex.", "z.b.ex.", "e.ex.", "\u00ff.ex."};
        String[] over = {"ex.", "b.ex.", "b.ex.", "d.ex.", "f.ex."};
        for (int i = 0; i < asked.length; i++) {
            desk.ask(asked[i], 1, true);
            String link = desk.record(2, 1);
            Check.due("over " + asked[i], link.substring(0, link.indexOf(' ')), over[i]);
        }
    }
}
