/** Promises 4 to 8: origin, put, take, takeAll, serial. */
public final class RecordsComeAndGoTest {
    private static final String BAD = "IllegalArgumentException";

    public static void main(String[] args) throws IllegalAccessException {
        Check.all(RecordsComeAndGoTest.class);
    }

    private static void origin() {
        Desk desk = new Desk();
        desk.put("a.", 1, 5, Desk.bytes(1, 2, 3, 4));
        desk.ask("a.", 1, false);
        desk.zone.serial(77);
        Check.due("origin", desk.originOf(9, -1, Desk.name("Ex.COM."), Desk.name("Ns.Ex.COM."), Desk.name("Z.")), "done");
        Check.due("the last answering stays", desk.section(1), "a. 1 5 #01020304");
        Check.due("the records went", desk.zone.count(1), 1);
        Check.due("the serial is 1", desk.zone.count(7), 1);
        Check.due("outside", desk.state("com."), 0);
        Check.due("its record, in lower case", desk.answer("ex.com.", 6, false),
                "0 | ex.com. 6 9 ns.ex.com. z. 1 7200 900 1209600 4294967295 | - | -");
        Check.due("origin again", desk.originOf(0, 0, Desk.name("."), Desk.name("."), Desk.name(".")), "done");
        Check.due("all is below the root", desk.state("ex.com."), 1);
    }

    private static void originRefuses() {
        Desk desk = new Desk();
        desk.origin("keep.", 4, 4);
        Check.due("time below 0", desk.origin("new.", -1, 1), BAD);
        Check.due("no tape", desk.originOf(1, 1), BAD);
        Check.due("two names", desk.originOf(1, 1, Desk.name("a."), Desk.name("b.")), BAD);
        Check.due("four names", desk.originOf(1, 1, Desk.name("a."), Desk.name("b."), Desk.name("c."), Desk.name(".")), BAD);
        Check.due("a third name without end", desk.originOf(1, 1, Desk.name("a."), Desk.name("b."), Desk.bytes(1, 99)), BAD);
        Check.due("a first name that is none", desk.originOf(1, 1, Desk.bytes(64), new byte[64], new byte[3]), BAD);
        Check.due("the tape stays", desk.zone.count(0), 68);
        Check.due("what throws changes nothing", desk.state("keep."), 3);
    }

    private static void putAnswers() {
        Desk desk = new Desk();
        Check.due("put", desk.put("a.", 1, 5, Desk.bytes(1, 1, 1, 1)), 1);
        Check.due("put another", desk.put("A.", 1, 6, Desk.bytes(0, 1, 1, 1)), 2);
        Check.due("the time is the set's", desk.answer("a.", 1, false), "0 | a. 1 6 #01010101; a. 1 6 #00010101 | - | -");
        Check.due("put what is there", desk.put("a.", 1, 0, Desk.bytes(1, 1, 1, 1)), 2);
        Check.due("its time is new, its place old", desk.answer("a.", 1, false),
                "0 | a. 1 0 #01010101; a. 1 0 #00010101 | - | -");
        Check.due("other types count apart", desk.put("a.", 99, 7, Desk.bytes()), 1);
        Check.due("the longest time", desk.put("a.", 100, 2147483647, Desk.bytes(9)), 1);
        Check.due("each set has its time", desk.answer("a.", 255, false),
                "0 | a. 1 0 #01010101; a. 1 0 #00010101; a. 99 7 #; a. 100 2147483647 #09 | - | -");
        Check.due("time below 0", desk.put("a.", 1, -1, Desk.bytes(1, 1, 1, 1)), BAD);
        Check.due("the tape stays", desk.zone.count(0), 7);
        Check.due("count of records", desk.zone.count(1), 5);
    }

    private static Object putRaw(Desk desk, byte[]... tape) {
        desk.tape(tape);
        return Check.of(() -> desk.zone.put(99, 1));
    }

    private static void putNames() {
        String most = Desk.letters(63) + "." + Desk.letters(63) + "." + Desk.letters(63) + ".";
        Desk desk = new Desk();
        Check.due("no tape", putRaw(desk), BAD);
        Check.due("a name without end", putRaw(desk, Desk.bytes(1, 97)), BAD);
        Check.due("a label of 64", putRaw(desk, Desk.bytes(64), new byte[65]), BAD);
        Check.due("a label of 192", putRaw(desk, Desk.bytes(192), new byte[200]), BAD);
        Check.due("a name of 255", putRaw(desk, Desk.name(most + Desk.letters(61) + ".")), 1);
        Check.due("a name of 256", putRaw(desk, Desk.name(most + Desk.letters(62) + ".")), BAD);
        Check.due("a name of 257", putRaw(desk, Desk.name(most + Desk.letters(63) + ".")), BAD);
        byte[] longest = Desk.name(most + Desk.letters(61) + ".");
        Check.due("a name of 255 behind one", new Desk().put(most, 15, 1, new byte[2], longest), 1);
        Check.due("three names of 255", new Desk().originOf(1, 1, longest, longest, longest), "done");
        Check.due("127 labels", putRaw(desk, Desk.name("a.".repeat(127))), 1);
        Check.due("128 labels", putRaw(desk, Desk.name("a.".repeat(128))), BAD);
        Check.due("count of names", desk.zone.count(3), 3);
        Check.due("count of what is there", desk.zone.count(4), 1 + 4 + 127);
        desk.origin("ex.com.", 1, 1);
        Check.due("outside", desk.put("com.", 1, 1, new byte[4]), BAD);
        Check.due("beside", desk.put("aex.com.", 1, 1, new byte[4]), BAD);
        Check.due("the same bytes, other labels", putRaw(desk, Desk.bytes(4, 97, 2, 101, 120, 3, 99, 111, 109, 0)), BAD);
        Check.due("at the origin", desk.put("EX.com.", 1, 1, new byte[4]), 1);
        Check.due("below", desk.put("a.b.ex.com.", 1, 1, new byte[4]), 1);
    }

    private static void putBesideAlias() {
        Desk desk = new Desk();
        String no = "UnsupportedOperationException";
        Check.due("5", desk.put("a.", 5, 1, Desk.name("b.")), 1);
        Check.due("5 once more", desk.put("a.", 5, 2, Desk.name("B.")), 1);
        Check.due("its new time", desk.answer("a.", 5, false), "0 | a. 5 2 b. | - | -");
        Check.due("5 of another", desk.put("a.", 5, 1, Desk.name("c.")), no);
        Check.due("1 beside 5", desk.put("a.", 1, 1, new byte[4]), no);
        Check.due("the tape stays", desk.zone.count(0), 7);
        Check.due("below 5", desk.put("x.a.", 1, 1, new byte[4]), 1);
        Check.due("5 beside 1", desk.put("x.a.", 5, 1, Desk.name("b.")), no);
        Check.due("5 at the origin", desk.put(".", 5, 1, Desk.name("b.")), no);
        Check.due("5 above", desk.put("y.x.a.", 99, 1), 1);
        desk.takeAll("x.a.", 1);
        Check.due("5 where only names below have records", desk.put("x.a.", 5, 1, Desk.name("b.")), 1);
        desk.takeAll("a.", 5);
        Check.due("1 when 5 went", desk.put("a.", 1, 1, new byte[4]), 1);
        Check.due("count of records", desk.zone.count(1), 4);
    }

    private static void take() {
        Desk desk = new Desk();
        desk.put("a.", 1, 5, Desk.bytes(1, 1, 1, 1));
        desk.put("a.", 1, 6, Desk.bytes(2, 2, 2, 2));
        desk.put("a.", 1, 7, Desk.bytes(3, 3, 3, 3));
        Check.due("take", desk.take("A.", 1, Desk.bytes(2, 2, 2, 2)), 2);
        Check.due("the others stay", desk.answer("a.", 1, false), "0 | a. 1 7 #01010101; a. 1 7 #03030303 | - | -");
        String none = "NoSuchElementException";
        Check.due("take again", desk.take("a.", 1, Desk.bytes(2, 2, 2, 2)), none);
        Check.due("the tape stays", desk.zone.count(0), 7);
        Check.due("take of another type", desk.take("a.", 99, Desk.bytes(1, 1, 1, 1)), none);
        Check.due("take of another name", desk.take("b.", 1, Desk.bytes(1, 1, 1, 1)), none);
        Check.due("take without a name", Check.of(() -> desk.tape(Desk.bytes(1)).zone.take(1)), BAD);
        Check.due("take of the rest", desk.take("a.", 1, Desk.bytes(1, 1, 1, 1)), 1);
        Check.due("take of the last", desk.take("a.", 1, Desk.bytes(3, 3, 3, 3)), 0);
        Check.due("the name went", desk.state("a."), 1);
        Check.due("counts", desk.zone.count(1) + " " + desk.zone.count(2) + " " + desk.zone.count(3), "1 1 1");
        Check.due("a new set has a new time", desk.put("a.", 1, 2, Desk.bytes(3, 3, 3, 3)), 1);
        Check.due("it", desk.answer("a.", 1, false), "0 | a. 1 2 #03030303 | - | -");
        desk.put("m.", 15, 2, Desk.bytes(0, 65), Desk.name("x."));
        Check.due("names in any case", desk.take("m.", 15, Desk.bytes(0, 65), Desk.name("X.")), 0);
        desk.origin("ex.", 1, 1);
        Check.due("outside", desk.take("a.", 1, Desk.bytes(3, 3, 3, 3)), BAD);
    }

    private static void takeAll() {
        Desk desk = new Desk();
        desk.put("a.", 1, 5, Desk.bytes(1, 1, 1, 1));
        desk.put("a.", 1, 5, Desk.bytes(2, 2, 2, 2));
        desk.put("a.", 99, 5);
        desk.put("a.", 28, 5, new byte[16]);
        desk.put("b.a.", 1, 5, new byte[4]);
        desk.put(".", 2, 5, Desk.name("a."));
        Check.due("of a type", desk.takeAll("A.", 1), 2);
        Check.due("again", desk.takeAll("a.", 1), 0);
        Check.due("the others stay", desk.answer("a.", 255, false), "0 | a. 28 5 #" + "00".repeat(16) + "; a. 99 5 # | - | -");
        Check.due("all", desk.takeAll("a.", 255), 2);
        Check.due("no name below", desk.state("b.a."), 3);
        Check.due("there without records", desk.state("a."), 2);
        Check.due("of no name", desk.takeAll("c.", 255), 0);
        Check.due("all at the origin", desk.takeAll(".", 255), 1);
        Check.due("but not 6", desk.answer(".", 6, false), "0 | . 6 0 . . 1 0 0 0 0 | - | -");
        Check.due("records", desk.zone.count(1), 2);
        for (int type : new int[] {-1, 0, 6, 41, 46, 47, 48, 249, 254, 256 * 256}) {
            Check.due("takeAll(" + type + ")", desk.takeAll("b.a.", type), BAD);
        }
        Check.due("the tape stays", desk.zone.count(0), 5);
        Check.due("not just a name", Check.of(() -> desk.tape(Desk.name("b.a."), new byte[1]).zone.takeAll(1)), BAD);
        Check.due("no tape", Check.of(() -> desk.tape().zone.takeAll(1)), BAD);
        desk.origin("ex.", 1, 1);
        Check.due("outside", desk.takeAll("a.", 255), BAD);
    }

    private static void serial() {
        Desk desk = new Desk();
        Check.due("serial", desk.zone.serial(-2), 1);
        Check.due("count(7)", desk.zone.count(7), -2);
        desk.ask(".", 6, false);
        Check.due("serial again", desk.zone.serial(5), -2);
        Check.due("told as it was", desk.section(1), ". 6 0 . . 4294967294 0 0 0 0");
        Check.due("told as it is", desk.answer(".", 6, false), "0 | . 6 0 . . 5 0 0 0 0 | - | -");
        desk.tape(Desk.name("a."));
        desk.zone.serial(6);
        Check.due("the tape stays", desk.zone.count(0), 3);
        Check.due("records", desk.zone.count(1), 1);
    }
}
