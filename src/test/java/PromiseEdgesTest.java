/** The document's promises 1 to 14: each sentence that names an edge has a test of its own. */
public final class PromiseEdgesTest {
    private static final String BAD = "IllegalArgumentException";
    private static final String FULL = "IllegalStateException";
    private static final String NEVER = "UnsupportedOperationException";
    private static final String NONE = "NoSuchElementException";
    private static final String BEYOND = "IndexOutOfBoundsException";

    public static void main(String[] args) throws IllegalAccessException {
        Check.all(PromiseEdgesTest.class);
    }

    private static Desk zone() {
        Desk desk = new Desk();
        desk.origin("ex.", 3600, 300);
        return desk;
    }

    private static Object origin(Desk desk, int time) {
        return Check.of(() -> {
            desk.zone.origin(time, 1, 2, 3, 4);
            return "done";
        });
    }

    private static String counts(Desk desk) {
        StringBuilder text = new StringBuilder();
        for (int what = 0; what <= 7; what++) {
            text.append(what == 0 ? "" : " ").append(desk.zone.count(what));
        }
        return text.toString();
    }

    // 1: a new object

    private static void newObjectIsTheRoot() {
        Check.sentence("The ORIGIN is the root");
        Desk desk = new Desk();
        Check.due("state of the root", desk.state("."), 3);
        Check.due("state of a name", desk.state("a."), 1);
        Check.due("put below", desk.put("a.b.", 99, 1), 1);
        Check.due("counts", counts(desk), "0 2 2 2 3 2 0 1");
    }

    private static void newObjectHasItsType6() {
        Check.sentence("its type 6 RECORD has the root for both names, SERIAL 1, other numbers and TIME 0");
        Desk desk = new Desk();
        Check.due("counts", counts(desk), "0 1 1 1 1 1 0 1");
        desk.ask(".", 6, true);
        Check.due("records", desk.zone.records(1), 1);
        Check.due("time", desk.zone.told(1, 0, 1), 0);
        Check.due("bytes of its data", desk.zone.told(1, 0, 3), 22);
        for (int i = 0; i < 22; i++) {
            Check.due("byte " + i, desk.zone.byteOf(1, 0, 1 + i), i == 5 ? 1 : 0);
        }
    }

    private static void firstListedIsThrown() {
        Check.sentence("Of several exceptions of a call the one listed first is thrown");
        Desk desk = zone();
        desk.put("a.ex.", 5, 1, Desk.name("b."));
        Check.due("put beside an alias with a time below 0", desk.put("a.ex.", 99, -1), BAD);
        Check.due("put beside an alias of no type", desk.put("a.ex.", 47, 1), BAD);
        Check.due("put beside an alias of wrong data", desk.put("a.ex.", 1, 1, new byte[3]), BAD);
        Check.due("take of none of wrong data", desk.take("z.ex.", 1, new byte[3]), BAD);
        Check.due("take of none outside", desk.take("z.", 1, new byte[4]), BAD);
        Check.due("take of none of no type", desk.take("z.ex.", 47), BAD);
        Check.due("told of none and another what", Check.of(() -> desk.zone.told(1, 0, 4)), NONE);
        Check.due("byteOf of none and beyond", Check.of(() -> desk.zone.byteOf(1, 0, -1)), NONE);
    }

    private static void throwingChangesNothing() {
        Check.sentence("what throws changes nothing");
        Desk desk = zone();
        desk.put("a.ex.", 5, 1, Desk.name("b."));
        desk.put("c.ex.", 99, 1, Desk.bytes(1));
        desk.ask("c.ex.", 99, false);
        desk.tape(Desk.name("c.ex."), Desk.bytes(1, 2));
        String before = counts(desk) + " | " + desk.section(1);
        Object[] thrown = {
            Check.of(() -> desk.zone.end(9)), Check.of(() -> desk.zone.end(-1)), origin(desk, 1), Check.of(() -> desk.zone.put(99, -1)),
            Check.of(() -> desk.zone.put(1, 7)), Check.of(() -> desk.zone.put(47, 7)), Check.of(() -> desk.zone.take(99)),
            Check.of(() -> desk.zone.take(6)), Check.of(() -> desk.zone.takeAll(99)), Check.of(() -> desk.zone.ask(99, true)),
            Check.of(() -> desk.zone.records(0)), Check.of(() -> desk.zone.told(1, 1, 0)), Check.of(() -> desk.zone.told(1, 0, 4)),
            Check.of(() -> desk.zone.byteOf(1, 1, 0)), Check.of(() -> desk.zone.byteOf(1, 0, 9)), Check.of(() -> desk.zone.state())};
        Object[] due = {BAD, BAD, BAD, BAD, BAD, BAD, NONE, BAD, BAD, BAD, NONE, NONE, BAD, NONE, BEYOND, BAD};
        for (int i = 0; i < due.length; i++) {
            Check.due("call " + i, thrown[i], due[i]);
        }
        Check.due("counts and section 1", counts(desk) + " | " + desk.section(1), before);
        Check.due("put beside an alias", desk.put("a.ex.", 99, 9), NEVER);
        Check.due("put of another alias", desk.put("a.ex.", 5, 9, Desk.name("c.")), NEVER);
        Check.due("put of an alias beside others", desk.put("c.ex.", 5, 9, Desk.name("c.")), NEVER);
        Check.due("the alias", desk.answer("a.ex.", 255, false), "0 | a.ex. 5 1 b. | - | -");
        Check.due("the others", desk.answer("c.ex.", 255, false), "0 | c.ex. 99 1 #01 | - | -");
    }

    // 2: feed

    private static void feedHighestFirst() {
        Check.sentence("The four bytes of each number, the highest first, come to the TAPE");
        ZoneAnswers zone = new ZoneAnswers();
        zone.feed(0x00010203, -1, Integer.MIN_VALUE, Integer.MAX_VALUE, 0x7F8081FE);
        zone.put(99, 1);
        zone.feed(0, 0, 0, 0, 0);
        zone.end(1);
        zone.ask(99, false);
        int[] due = {0, 1, 2, 3, 255, 255, 255, 255, 128, 0, 0, 0, 127, 255, 255, 255, 127, 128, 129, 254};
        for (int i = 0; i < due.length; i++) {
            Check.due("byte " + i, zone.byteOf(1, 0, i), due[i]);
        }
    }

    private static void feedAnswersTheLength() {
        Check.sentence("come to the TAPE: its length");
        ZoneAnswers zone = new ZoneAnswers();
        for (int i = 1; i <= 500; i++) {
            Check.due("feed " + i, zone.feed(i, i, i, i, i), 20 * i);
        }
        zone.end(1);
        Check.due("behind end(1)", zone.feed(0, 0, 0, 0, 0), 21);
        zone.end(0);
        Check.due("behind end(0)", zone.feed(0, 0, 0, 0, 0), 20);
    }

    /** Beyond the 512 calls that are promised, but kept all the same. */
    private static void feedWithoutRoom() {
        Check.sentence("IllegalStateException: there is no room for 20");
        ZoneAnswers zone = new ZoneAnswers();
        for (int i = 0; i < 3276; i++) {
            zone.feed(0, 0, 0, 0, 0);
        }
        Check.due("room for 16", Check.of(() -> zone.feed(1, 1, 1, 1, 1)), FULL);
        Check.due("the length stays", zone.count(0), 65520);
        zone.end(65517);
        Check.due("room for 19", Check.of(() -> zone.feed(1, 1, 1, 1, 1)), FULL);
        Check.due("the length stays", zone.count(0), 65517);
        zone.end(65516);
        Check.due("room for 20", Check.of(() -> zone.feed(1, 1, 1, 1, 1)), 65536);
        Check.due("no room", Check.of(() -> zone.feed(1, 1, 1, 1, 1)), FULL);
        Check.due("end(65537)", Check.of(() -> zone.end(65537)), BAD);
        Check.due("end(65536)", Check.of(() -> zone.end(65536)), 65536);
    }

    // 3: end

    private static void endKeepsTheFirst() {
        Check.sentence("Only the first n bytes of the TAPE stay: n");
        ZoneAnswers zone = new ZoneAnswers();
        zone.feed(0x00010203, 0x04050607, 0, 0, 0);
        Check.due("end(6)", zone.end(6), 6);
        Check.due("end(6) again", zone.end(6), 6);
        zone.feed(0x08090A0B, 0, 0, 0, 0);
        Check.due("end(8)", zone.end(8), 8);
        zone.put(99, 1);
        zone.feed(0, 0, 0, 0, 0);
        zone.end(1);
        zone.ask(99, false);
        int[] due = {0, 1, 2, 3, 4, 5, 8, 9};
        Check.due("bytes", zone.told(1, 0, 2) + zone.told(1, 0, 3), due.length);
        for (int i = 0; i < due.length; i++) {
            Check.due("byte " + i, zone.byteOf(1, 0, i), due[i]);
        }
    }

    private static void endRefuses() {
        Check.sentence("IllegalArgumentException: n is not 0 .. its length");
        ZoneAnswers zone = new ZoneAnswers();
        Check.due("end(0) of none", Check.of(() -> zone.end(0)), 0);
        Check.due("end(1) of none", Check.of(() -> zone.end(1)), BAD);
        zone.feed(0, 0, 0, 0, 0);
        for (int n : new int[] {-1, 21, Integer.MIN_VALUE, Integer.MAX_VALUE}) {
            Check.due("end(" + n + ") of 20", Check.of(() -> zone.end(n)), BAD);
            Check.due("the length stays", zone.count(0), 20);
        }
        Check.due("end(20) of 20", Check.of(() -> zone.end(20)), 20);
        Check.due("end(0) of 20", Check.of(() -> zone.end(0)), 0);
        Check.due("end(20) of none", Check.of(() -> zone.end(20)), BAD);
    }

    // 4: origin

    private static void originIsThreeNames() {
        Check.sentence("IllegalArgumentException: the TAPE is not so (three names)");
        byte[] a = Desk.name("a.");
        byte[] root = Desk.name(".");
        byte[][] refused = {{}, a, Desk.join(a, a), Desk.join(a, a, Desk.bytes(1, 'b')), Desk.join(a, a, a, root), Desk.join(a, a, a, a),
            Desk.join(a, a, a, Desk.bytes(9)), Desk.join(Desk.bytes(1), a, a), Desk.join(Desk.bytes(64), new byte[64], root, root)};
        Desk desk = zone();
        for (int i = 0; i < refused.length; i++) {
            Check.due("tape " + i, desk.originOf(1, 1, refused[i]), BAD);
            Check.due("the tape stays", desk.zone.count(0), refused[i].length);
        }
        Check.due("the zone stays", desk.answer("ex.", 6, false), "0 | ex. 6 3600 ns.ex. adm. 1 7200 900 1209600 300 | - | -");
        Check.due("three roots", desk.originOf(1, 1, root, root, root), "done");
        Check.due("three names", desk.originOf(1, 1, a, root, Desk.name("b.c.")), "done");
        Check.due("them", desk.answer("a.", 6, false), "0 | a. 6 1 . b.c. 1 7200 900 1209600 1 | - | -");
    }

    private static void originTimes() {
        Check.sentence("IllegalArgumentException: ..., or time is below 0");
        for (int time : new int[] {0, 1, Integer.MAX_VALUE}) {
            Desk desk = new Desk();
            Check.due("time " + time, desk.origin("ex.", time, 1), "done");
            desk.ask("ex.", 6, false);
            Check.due("the time", desk.zone.told(1, 0, 1), time);
        }
        for (int time : new int[] {-1, Integer.MIN_VALUE}) {
            Desk desk = new Desk();
            Check.due("time " + time, desk.origin("ex.", time, 1), BAD);
            Check.due("the origin stays", desk.state("."), 3);
        }
    }

    private static void originNumbers() {
        Check.sentence("SERIAL 1 and the numbers (as 32 bits)");
        Desk desk = new Desk();
        desk.zone.serial(5);
        desk.tape(Desk.name("a."), Desk.name("b."), Desk.name("c."));
        desk.zone.origin(7, -1, Integer.MIN_VALUE, Integer.MAX_VALUE, -2);
        Check.due("them", desk.answer("a.", 6, false), "0 | a. 6 7 b. c. 1 4294967295 2147483648 2147483647 4294967294 | - | -");
        Check.due("count(7)", desk.zone.count(7), 1);
    }

    private static void originIsANewZone() {
        Check.sentence("a new ZONE ... with the first as ORIGIN and one RECORD, of type 6");
        Desk desk = zone();
        desk.put("s.ex.", 2, 1, Desk.name("far."));
        desk.put("a.s.ex.", 99, 1);
        desk.zone.serial(9);
        desk.origin("ex.", 3600, 300);
        Check.due("the same origin again", counts(desk), "0 1 1 1 1 1 0 1");
        Check.due("state of what was there", desk.state("s.ex."), 1);
        Check.due("ask for what was there", desk.ask("a.s.ex.", 99, false), 3);
        desk.put("a.ex.", 5, 1, Desk.name("b.ex."));
        desk.origin("a.ex.", 1, 1);
        Check.due("below the old one", counts(desk), "0 1 1 1 1 1 0 1");
        Check.due("the old one is outside", desk.state("ex."), 0);
        desk.origin(".", 1, 1);
        Check.due("above the old one", desk.state("a.ex."), 1);
    }

    private static void originLeavesTheAnswering() {
        Check.sentence("(the last ANSWERING stays as it was)");
        Desk desk = zone();
        desk.put("a.ex.", 15, 7, Desk.bytes(0, 1), Desk.name("b.ex."));
        desk.put("b.ex.", 1, 8, Desk.bytes(1, 2, 3, 4));
        desk.put("*.ex.", 15, 7, Desk.bytes(0, 1), Desk.name("b.ex."));
        desk.ask("c.ex.", 15, true);
        String before = desk.section(1) + " | " + desk.section(2) + " | " + desk.section(3);
        desk.origin("far.", 9, 9);
        Check.due("sections", desk.section(1) + " | " + desk.section(2) + " | " + desk.section(3), before);
        Check.due("they", before, "c.ex. 15 7 #0001 b.ex. | b.ex. 47 300 ex. 1 46 47 | b.ex. 1 8 #01020304");
    }

    // 5: put

    private static void putAnswersHowMany() {
        Check.sentence("that RECORD is there then ... : how many the RRSET has");
        Desk desk = new Desk();
        for (int i = 1; i <= 20; i++) {
            Check.due("put " + i, desk.put("a.", 99, 1, Desk.bytes(i)), i);
        }
        Check.due("put of the first again", desk.put("a.", 99, 1, Desk.bytes(1)), 20);
        Check.due("put of the last again", desk.put("a.", 99, 1, Desk.bytes(20)), 20);
        Check.due("of another type", desk.put("a.", 98, 1, Desk.bytes(1)), 1);
        Check.due("of another name", desk.put("b.", 99, 1, Desk.bytes(1)), 1);
        Check.due("records", desk.zone.count(1), 23);
    }

    private static void putSetsTheTime() {
        Check.sentence("TIME is the TIME of its RRSET (also if it was there)");
        Desk desk = new Desk();
        desk.put("a.", 99, 5, Desk.bytes(1));
        desk.put("a.", 99, 9, Desk.bytes(2));
        Check.due("a longer one", desk.answer("a.", 99, false), "0 | a. 99 9 #01; a. 99 9 #02 | - | -");
        desk.put("a.", 99, 0, Desk.bytes(1));
        Check.due("0, with what was there", desk.answer("a.", 99, false), "0 | a. 99 0 #01; a. 99 0 #02 | - | -");
        desk.put("b.", 5, 1, Desk.name("c."));
        desk.put("b.", 5, 2, Desk.name("c."));
        Check.due("an alias that was there", desk.answer("b.", 5, false), "0 | b. 5 2 c. | - | -");
    }

    private static void putWithoutAName() {
        Check.sentence("IllegalArgumentException: the TAPE begins with no name");
        Desk desk = new Desk();
        byte[][] tapes = {{}, {1}, {1, 'a'}, {2, 'a', 0}, {64, 0, 0}, {-64, 12, 0}, {1, 'a', 1}};
        for (int i = 0; i < tapes.length; i++) {
            int length = tapes[i].length;
            desk.tape(tapes[i]);
            Check.due("put, tape " + i, Check.of(() -> desk.zone.put(99, 1)), BAD);
            Check.due("take, tape " + i, Check.of(() -> desk.zone.take(99)), BAD);
            Check.due("the tape stays", desk.zone.count(0), length);
        }
        Check.due("records", desk.zone.count(1), 1);
    }

    private static void putOutside() {
        Check.sentence("the name is not AT OR BELOW the ORIGIN");
        Desk desk = zone();
        for (String name : new String[] {".", "far.", "bex.", "ex.far.", "e.", "exx."}) {
            Check.due("put at " + name, desk.put(name, 99, 1), BAD);
            Check.due("take at " + name, desk.take(name, 99), BAD);
            Check.due("takeAll at " + name, desk.takeAll(name, 99), BAD);
        }
        Check.due("put at the origin", desk.put("ex.", 99, 1), 1);
        Check.due("put below", desk.put("ex.ex.", 99, 1), 1);
        Check.due("names", desk.zone.count(3), 2);
    }

    private static void putTimes() {
        Check.sentence("or time is below 0");
        Desk desk = new Desk();
        Check.due("0", desk.put("a.", 99, 0), 1);
        Check.due("the greatest", desk.put("a.", 99, Integer.MAX_VALUE), 1);
        for (int time : new int[] {-1, Integer.MIN_VALUE}) {
            Check.due("new, time " + time, desk.put("b.", 99, time), BAD);
            Check.due("there, time " + time, desk.put("a.", 99, time), BAD);
        }
        Check.due("the time", desk.answer("a.", 99, false), "0 | a. 99 2147483647 # | - | -");
        Check.due("the name", desk.state("b."), 1);
    }

    /** Beyond the 512 calls that are promised, but kept all the same. */
    private static void putOf2000() {
        Check.sentence("IllegalStateException: it is not there, and there are 2,000 RECORDS");
        Desk desk = new Desk();
        desk.put("b.", 5, 1, Desk.name("c."));
        for (int i = 2; i < 1999; i++) {
            desk.put("a.", 99, 1, Desk.bytes(i / 256, i));
        }
        Check.due("the 2,000th, with the type 6 one", desk.put("a.", 99, 1, Desk.bytes(9)), 1998);
        Check.due("one more", desk.put("a.", 99, 1, Desk.bytes(8)), FULL);
        Check.due("the tape stays", desk.zone.count(0), 4);
        Check.due("one more at another name", desk.put("d.", 99, 1), FULL);
        Check.due("state of that", desk.state("d."), 1);
        Check.due("one that is there", desk.put("a.", 99, 2, Desk.bytes(9)), 1998);
        Check.due("one more beside an alias", desk.put("b.", 99, 1), FULL);
        Check.due("one more alias beside others", desk.put("a.", 5, 1, Desk.name("c.")), FULL);
        Check.due("the alias that is there", desk.put("b.", 5, 2, Desk.name("c.")), 1);
        Check.due("a time below 0", desk.put("d.", 99, -1), BAD);
        Check.due("records", desk.zone.count(1), 2000);
        Check.due("one goes", desk.take("a.", 99, Desk.bytes(9)), 1997);
        Check.due("one more beside an alias then", desk.put("b.", 99, 1), NEVER);
        Check.due("one comes", desk.put("a.", 99, 1, Desk.bytes(8)), 1998);
    }

    private static void putBesideAlias() {
        Check.sentence("UnsupportedOperationException: it is not there, and its name has an RRSET of type 5 (so if the type is 5, too)");
        Desk desk = new Desk();
        desk.put("a.", 5, 1, Desk.name("b."));
        for (int type : new int[] {4, 7, 43, 99, 65535}) {
            Check.due(type + " beside 5", desk.put("a.", type, 1), NEVER);
        }
        Check.due("another 5", desk.put("a.", 5, 1, Desk.name("c.")), NEVER);
        Check.due("the same 5", desk.put("a.", 5, 1, Desk.name("B.")), 1);
        Check.due("below", desk.put("z.a.", 99, 1), 1);
        Check.due("records", desk.zone.count(1), 3);
        desk.take("a.", 5, Desk.name("b."));
        Check.due("when it went", desk.put("a.", 99, 1), 1);
    }

    private static void putOfAnAlias() {
        Check.sentence("or the type is 5 and its name has RECORDS");
        Desk desk = zone();
        Check.due("at the origin", desk.put("ex.", 5, 1, Desk.name("b.")), NEVER);
        desk.put("b.a.ex.", 99, 1);
        Check.due("beside another", desk.put("b.a.ex.", 5, 1, Desk.name("b.")), NEVER);
        Check.due("where only a name below has records", desk.put("a.ex.", 5, 1, Desk.name("b.")), 1);
        Check.due("where a name above has records", desk.put("c.b.a.ex.", 5, 1, Desk.name("b.")), 1);
        desk.takeAll("b.a.ex.", 255);
        Check.due("when the other went", desk.put("b.a.ex.", 5, 1, Desk.name("b.")), 1);
    }

    // 6: take

    private static void takeAnswersHowMany() {
        Check.sentence("that RECORD goes ... : how many the RRSET still has");
        Desk desk = new Desk();
        desk.put("a.", 99, 1, Desk.bytes(1));
        desk.put("a.", 99, 1, Desk.bytes(2));
        desk.put("a.", 99, 1, Desk.bytes(3));
        desk.put("a.", 98, 1, Desk.bytes(3));
        Check.due("the middle one", desk.take("a.", 99, Desk.bytes(2)), 2);
        Check.due("the others", desk.answer("a.", 99, false), "0 | a. 99 1 #01; a. 99 1 #03 | - | -");
        Check.due("the first", desk.take("a.", 99, Desk.bytes(1)), 1);
        Check.due("the last", desk.take("a.", 99, Desk.bytes(3)), 0);
        Check.due("the RRSET went", counts(desk), "0 2 2 2 2 2 0 1");
        Check.due("the last of the name", desk.take("a.", 98, Desk.bytes(3)), 0);
        Check.due("the name went", counts(desk), "0 1 1 1 1 1 0 1");
    }

    private static void takeLeavesTheTime() {
        Check.sentence("(the TIME of the others stays)");
        Desk desk = new Desk();
        desk.put("a.", 99, 5, Desk.bytes(1));
        desk.put("a.", 99, 7, Desk.bytes(2));
        desk.put("a.", 98, 9);
        desk.take("a.", 99, Desk.bytes(2));
        Check.due("they", desk.answer("a.", 255, false), "0 | a. 98 9 #; a. 99 7 #01 | - | -");
        desk.take("a.", 99, Desk.bytes(1));
        desk.put("a.", 99, 3, Desk.bytes(1));
        Check.due("a new RRSET has a new time", desk.answer("a.", 99, false), "0 | a. 99 3 #01 | - | -");
    }

    private static void takeRefuses() {
        Check.sentence("IllegalArgumentException: as put");
        Desk desk = zone();
        desk.put("a.ex.", 1, 1, new byte[4]);
        Check.due("no tape", Check.of(() -> desk.tape().zone.take(1)), BAD);
        Check.due("no name", Check.of(() -> desk.tape(Desk.bytes(1, 'a')).zone.take(1)), BAD);
        Check.due("outside", desk.take("a.far.", 1, new byte[4]), BAD);
        Check.due("no type", desk.take("a.ex.", 0, new byte[4]), BAD);
        Check.due("type 6", desk.take("ex.", 6, new byte[4]), BAD);
        Check.due("type 255", desk.take("a.ex.", 255), BAD);
        Check.due("wrong data", desk.take("a.ex.", 1, new byte[5]), BAD);
        Check.due("the tape stays", desk.zone.count(0), 11);
        Check.due("records", desk.zone.count(1), 2);
    }

    private static void takeOfNone() {
        Check.sentence("NoSuchElementException: it is not there");
        Desk desk = zone();
        desk.put("b.a.ex.", 99, 1, Desk.bytes(1, 2));
        Check.due("other data", desk.take("b.a.ex.", 99, Desk.bytes(1, 3)), NONE);
        Check.due("less data", desk.take("b.a.ex.", 99, Desk.bytes(1)), NONE);
        Check.due("no data", desk.take("b.a.ex.", 99), NONE);
        Check.due("more data", desk.take("b.a.ex.", 99, Desk.bytes(1, 2, 3)), NONE);
        Check.due("another type", desk.take("b.a.ex.", 98, Desk.bytes(1, 2)), NONE);
        Check.due("a name above", desk.take("a.ex.", 99, Desk.bytes(1, 2)), NONE);
        Check.due("a name below", desk.take("c.b.a.ex.", 99, Desk.bytes(1, 2)), NONE);
        Check.due("the tape stays", desk.zone.count(0), 12);
        Check.due("it", desk.take("b.a.ex.", 99, Desk.bytes(1, 2)), 0);
        Check.due("again", desk.take("b.a.ex.", 99, Desk.bytes(1, 2)), NONE);
    }

    // 7: takeAll

    private static void takeAllOfAType() {
        Check.sentence("its RRSET of that type ... go: how many RECORDS went");
        Desk desk = zone();
        for (int i = 0; i < 3; i++) {
            desk.put("a.ex.", 99, 1, Desk.bytes(i));
            desk.put("a.ex.", 98, 1, Desk.bytes(i));
            desk.put("b.a.ex.", 99, 1, Desk.bytes(i));
        }
        Check.due("three", desk.takeAll("A.ex.", 99), 3);
        Check.due("the rest", counts(desk), "0 7 3 3 3 3 0 1");
        Check.due("again", desk.takeAll("a.ex.", 99), 0);
        Check.due("the last RRSET", desk.takeAll("a.ex.", 98), 3);
        Check.due("without records", desk.state("a.ex."), 2);
    }

    private static void takeAllOf255() {
        Check.sentence("or, with 255, all its RRSETS but type 6, go");
        Desk desk = zone();
        desk.put("ex.", 2, 1, Desk.name("far."));
        desk.put("ex.", 2, 1, Desk.name("farther."));
        desk.put("ex.", 7, 1);
        desk.put("a.ex.", 1, 1, new byte[4]);
        desk.put("a.ex.", 65535, 1);
        desk.put("b.ex.", 5, 1, Desk.name("far."));
        Check.due("at the origin", desk.takeAll("ex.", 255), 3);
        Check.due("6 stays", desk.answer("ex.", 255, false), "0 | ex. 6 3600 ns.ex. adm. 1 7200 900 1209600 300 | - | -");
        Check.due("at the origin again", desk.takeAll("ex.", 255), 0);
        Check.due("at a name", desk.takeAll("a.ex.", 255), 2);
        Check.due("at an alias", desk.takeAll("b.ex.", 255), 1);
        Check.due("counts", counts(desk), "0 1 1 1 1 1 0 1");
    }

    private static void takeAllOfNone() {
        Check.sentence("how many RECORDS went (none)");
        Desk desk = zone();
        desk.put("b.a.ex.", 99, 1);
        for (int type : new int[] {99, 255, 1, 65535}) {
            Check.due("at no name", desk.takeAll("z.ex.", type), 0);
            Check.due("at a name without records", desk.takeAll("a.ex.", type), 0);
            Check.due("the tape is empty", desk.zone.count(0), 0);
        }
        Check.due("of another type", desk.takeAll("b.a.ex.", 98), 0);
        Check.due("counts", counts(desk), "0 2 2 2 3 2 0 1");
    }

    private static void takeAllRefuses() {
        Check.sentence("IllegalArgumentException: it is not just a name, or not AT OR BELOW the ORIGIN, or the type is neither 255 nor one that is put");
        Desk desk = zone();
        desk.put("a.ex.", 99, 1);
        byte[] name = Desk.name("a.ex.");
        byte[][] tapes = {{}, Desk.bytes(1), Desk.join(name, new byte[1]), Desk.join(name, name), Desk.bytes(1, 'a', 2, 'e', 'x')};
        for (int i = 0; i < tapes.length; i++) {
            desk.tape(tapes[i]);
            Check.due("tape " + i, Check.of(() -> desk.zone.takeAll(99)), BAD);
            Check.due("tape " + i + ", 255", Check.of(() -> desk.zone.takeAll(255)), BAD);
        }
        Check.due("outside", desk.takeAll("a.", 99), BAD);
        Check.due("outside, 255", desk.takeAll(".", 255), BAD);
        for (int type : new int[] {-1, 0, 6, 41, 46, 47, 48, 249, 254, 65536, 65536 + 99, 65536 + 255, -1 - 255}) {
            Check.due("type " + type, desk.takeAll("a.ex.", type), BAD);
        }
        Check.due("records", desk.zone.count(1), 2);
    }

    // 8: serial

    private static void serialAnswersWhatItWas() {
        Check.sentence("SERIAL becomes that: what it was");
        Desk desk = zone();
        int was = 1;
        for (int n : new int[] {0, -1, Integer.MAX_VALUE, Integer.MIN_VALUE, 1, 1}) {
            Check.due("serial(" + n + ")", desk.zone.serial(n), was);
            Check.due("count(7)", desk.zone.count(7), n);
            desk.ask("ex.", 6, false);
            Check.due("the record", desk.section(1), "ex. 6 3600 ns.ex. adm. " + Integer.toUnsignedString(n) + " 7200 900 1209600 300");
            was = n;
        }
        Check.due("records", desk.zone.count(1), 1);
        desk.tape(Desk.bytes(1, 2, 3));
        desk.zone.serial(4);
        Check.due("the tape stays", desk.zone.count(0), 3);
    }

    // 9: ask

    private static void askTypes() {
        Check.sentence("ANSWERING for type 1 .. 65535 ... IllegalArgumentException: ... or another type");
        Desk desk = zone();
        desk.put("a.ex.", 1, 1, new byte[4]);
        desk.put("a.ex.", 65535, 2, new byte[4]);
        Check.due("1", desk.answer("a.ex.", 1, false), "0 | a.ex. 1 1 #00000000 | - | -");
        Check.due("65535", desk.answer("a.ex.", 65535, false), "0 | a.ex. 65535 2 #00000000 | - | -");
        for (int type : new int[] {0, -1, 65536, 65537, Integer.MIN_VALUE, Integer.MAX_VALUE}) {
            Check.due("type " + type, desk.ask("a.ex.", type, true), BAD);
            Check.due("the tape stays", desk.zone.count(0), 6);
            Check.due("the last answering stays", desk.section(1), "a.ex. 65535 2 #00000000");
        }
    }

    private static void askOfTypesThatAreNone() {
        Check.sentence("(any of these; of 41, 46 to 48, 249 to 254 there is none)");
        Desk desk = zone();
        desk.put("a.ex.", 99, 1);
        for (int type : new int[] {41, 46, 47, 48, 249, 250, 251, 252, 253, 254}) {
            Check.due("type " + type, desk.answer("a.ex.", type, true),
                    "0 | - | ex. 6 300 ns.ex. adm. 1 7200 900 1209600 300; a.ex. 47 300 ex. 46 47 99 | -");
            desk.ask("ex.", 6, true);
        }
    }

    private static void askIsJustAName() {
        Check.sentence("IllegalArgumentException: it is not just a name (ask)");
        Desk desk = zone();
        desk.ask("ex.", 6, false);
        byte[] name = Desk.name("ex.");
        byte[][] tapes = {{}, Desk.bytes(1), Desk.join(name, new byte[1]), Desk.join(name, name), Desk.bytes(2, 'e', 'x')};
        for (int i = 0; i < tapes.length; i++) {
            desk.tape(tapes[i]);
            Check.due("tape " + i, Check.of(() -> desk.zone.ask(1, true)), BAD);
            Check.due("the tape stays", desk.zone.count(0), tapes[i].length);
        }
        Check.due("the last answering stays", desk.zone.records(1) + " " + desk.zone.records(2), "1 0");
    }

    // 10: records

    private static void recordsOfSections() {
        Check.sentence("RECORDS (a LINK is one) in SECTION 1 .. 3 ... NoSuchElementException: another SECTION");
        Desk desk = zone();
        desk.put("s.ex.", 2, 1, Desk.name("a.s.ex."));
        desk.put("s.ex.", 2, 1, Desk.name("b.s.ex."));
        desk.put("a.s.ex.", 1, 1, new byte[4]);
        desk.put("c.ex.", 5, 1, Desk.name("s.ex."));
        desk.ask("c.ex.", 1, true);
        Check.due("them", desk.zone.records(1) + " " + desk.zone.records(2) + " " + desk.zone.records(3), "1 3 1");
        for (int section : new int[] {0, 4, -1, Integer.MIN_VALUE, Integer.MAX_VALUE}) {
            Check.due("records(" + section + ")", Check.of(() -> desk.zone.records(section)), NONE);
        }
        desk.ask("far.", 1, true);
        Check.due("of the last one", desk.zone.records(1) + " " + desk.zone.records(2) + " " + desk.zone.records(3), "0 0 0");
    }

    private static void recordsBeforeAny() {
        Check.sentence("(before any ANSWERING there is none)");
        ZoneAnswers zone = new ZoneAnswers();
        for (int section = 1; section <= 3; section++) {
            int s = section;
            Check.due("records(" + s + ")", Check.of(() -> zone.records(s)), 0);
            Check.due("told(" + s + ", 0, 0)", Check.of(() -> zone.told(s, 0, 0)), NONE);
            Check.due("byteOf(" + s + ", 0, 0)", Check.of(() -> zone.byteOf(s, 0, 0)), NONE);
        }
        Check.due("records(0)", Check.of(() -> zone.records(0)), NONE);
        Check.due("records(4)", Check.of(() -> zone.records(4)), NONE);
    }

    // 11: told

    /** An answer with two records of type 99, the second one without data. */
    private static Desk asked() {
        Desk desk = new Desk();
        desk.put("ab.", 99, 7, Desk.bytes(200, 1, 255));
        desk.put("ab.", 99, 7);
        desk.ask("ab.", 99, false);
        return desk;
    }

    private static void toldEach() {
        Check.sentence("its type (what 0), TIME (1), bytes of its name (2), of its data (3)");
        Desk desk = asked();
        int[][] due = {{99, 7, 4, 3}, {99, 7, 4, 0}};
        for (int k = 0; k < 2; k++) {
            for (int what = 0; what < 4; what++) {
                Check.due("told(1, " + k + ", " + what + ")", desk.zone.told(1, k, what), due[k][what]);
            }
        }
        Desk longest = new Desk();
        longest.put("a.".repeat(127), 65535, Integer.MAX_VALUE, new byte[300]);
        longest.ask("a.".repeat(127), 65535, false);
        Check.due("the greatest", longest.zone.told(1, 0, 0) + " " + longest.zone.told(1, 0, 1) + " " + longest.zone.told(1, 0, 2) + " "
                + longest.zone.told(1, 0, 3), "65535 2147483647 255 300");
        Desk root = new Desk();
        root.ask(".", 6, false);
        Check.due("the least name", root.zone.told(1, 0, 2), 1);
    }

    private static void toldRrsetByRrset() {
        Check.sentence("Of RECORD k, from 0, of a SECTION, RRSET by RRSET as they went there");
        Desk desk = zone();
        desk.put("b.ex.", 98, 2, Desk.bytes(2));
        desk.put("b.ex.", 97, 1, Desk.bytes(4));
        desk.put("b.ex.", 98, 2, Desk.bytes(1));
        desk.put("b.ex.", 97, 1, Desk.bytes(3));
        desk.ask("b.ex.", 255, false);
        String[] due = {"b.ex. 97 1 #04", "b.ex. 97 1 #03", "b.ex. 98 2 #02", "b.ex. 98 2 #01"};
        for (int k = 0; k < due.length; k++) {
            Check.due("record " + k, desk.record(1, k), due[k]);
        }
    }

    private static void toldAsItWas() {
        Check.sentence("It is told as it was at the ANSWERING");
        Desk desk = zone();
        desk.put("a.ex.", 99, 1, Desk.bytes(1));
        desk.put("a.ex.", 99, 1, Desk.bytes(2));
        desk.ask("a.ex.", 99, true);
        String before = desk.section(1);
        desk.put("a.ex.", 99, 8, Desk.bytes(3));
        desk.take("a.ex.", 99, Desk.bytes(1));
        Check.due("after put and take", desk.section(1), before);
        desk.takeAll("a.ex.", 255);
        Check.due("after takeAll", desk.section(1), before);
        desk.put("c.ex.", 99, 1);
        desk.ask("b.ex.", 1, true);
        before = desk.section(2);
        desk.zone.serial(9);
        desk.put("bb.ex.", 99, 1);
        desk.put("a.ex.", 99, 1);
        desk.put("ex.", 99, 1);
        Check.due("type 6 and links", desk.section(2), before);
        Check.due("they", before, "ex. 6 300 ns.ex. adm. 1 7200 900 1209600 300; ex. 47 300 c.ex. 6 46 47");
    }

    private static void toldOfNone() {
        Check.sentence("NoSuchElementException, first: no such one");
        Desk desk = asked();
        for (int what : new int[] {0, 3, 4, -1}) {
            for (int k : new int[] {2, -1, Integer.MIN_VALUE, Integer.MAX_VALUE}) {
                Check.due("told(1, " + k + ", " + what + ")", Check.of(() -> desk.zone.told(1, k, what)), NONE);
            }
            for (int section : new int[] {0, 2, 3, 4, -1, Integer.MIN_VALUE, Integer.MAX_VALUE}) {
                Check.due("told(" + section + ", 0, " + what + ")", Check.of(() -> desk.zone.told(section, 0, what)), NONE);
            }
        }
    }

    private static void toldOfAnotherWhat() {
        Check.sentence("IllegalArgumentException: another what");
        Desk desk = asked();
        for (int what : new int[] {-1, 4, Integer.MIN_VALUE, Integer.MAX_VALUE}) {
            Check.due("told(1, 1, " + what + ")", Check.of(() -> desk.zone.told(1, 1, what)), BAD);
        }
    }

    // 12: byteOf

    private static void byteOfNameAndData() {
        Check.sentence("Byte i of its name; from its length on byte i of its data");
        Desk desk = asked();
        int[] due = {2, 'a', 'b', 0, 200, 1, 255};
        for (int i = 0; i < due.length; i++) {
            Check.due("byteOf(1, 0, " + i + ")", desk.zone.byteOf(1, 0, i), due[i]);
        }
        Desk root = new Desk();
        root.put("\u0080\u00ff.", 99, 1, Desk.bytes(128, 127, 0));
        root.ask("\u0080\u00ff.", 99, false);
        int[] high = {2, 128, 255, 0, 128, 127, 0};
        for (int i = 0; i < high.length; i++) {
            Check.due("byte " + i + " without sign", root.zone.byteOf(1, 0, i), high[i]);
        }
    }

    private static void byteOfNone() {
        Check.sentence("NoSuchElementException: no such one (byteOf)");
        Desk desk = asked();
        for (int i : new int[] {0, -1, 7, Integer.MAX_VALUE}) {
            for (int k : new int[] {2, -1, Integer.MIN_VALUE, Integer.MAX_VALUE}) {
                Check.due("byteOf(1, " + k + ", " + i + ")", Check.of(() -> desk.zone.byteOf(1, k, i)), NONE);
            }
            for (int section : new int[] {0, 2, 3, 4, -1, Integer.MIN_VALUE, Integer.MAX_VALUE}) {
                Check.due("byteOf(" + section + ", 0, " + i + ")", Check.of(() -> desk.zone.byteOf(section, 0, i)), NONE);
            }
        }
    }

    private static void byteOfBeyond() {
        Check.sentence("IndexOutOfBoundsException: no such byte");
        Desk desk = asked();
        for (int i : new int[] {-1, 7, 8, Integer.MIN_VALUE, Integer.MAX_VALUE}) {
            Check.due("byteOf(1, 0, " + i + ")", Check.of(() -> desk.zone.byteOf(1, 0, i)), BEYOND);
        }
        Check.due("the last byte", Check.of(() -> desk.zone.byteOf(1, 0, 6)), 255);
        Check.due("the last byte without data", Check.of(() -> desk.zone.byteOf(1, 1, 3)), 0);
        Check.due("beyond it", Check.of(() -> desk.zone.byteOf(1, 1, 4)), BEYOND);
    }

    // 13: state

    private static void stateOfEach() {
        Check.sentence("0 it is not AT OR BELOW the ORIGIN, 1 not THERE, 2 THERE without RECORDS, 3 with RECORDS and in THE CHAIN, but no CUT, "
                + "4 a CUT in THE CHAIN, 5 with RECORDS and GIVEN AWAY");
        Desk desk = zone();
        desk.put("ex.", 2, 1, Desk.name("far."));
        desk.put("c.b.ex.", 99, 1);
        desk.put("s.ex.", 2, 1, Desk.name("far."));
        desk.put("t.s.ex.", 2, 1, Desk.name("far."));
        desk.put("v.u.s.ex.", 99, 1);
        String[] names = {".", "far.", "aex.", "a.ex.", "d.b.ex.", "d.c.b.ex.", "x.s.ex.", "*.ex.", "b.ex.", "u.s.ex.", "ex.", "c.b.ex.",
            "s.ex.", "t.s.ex.", "v.u.s.ex."};
        int[] due = {0, 0, 0, 1, 1, 1, 1, 1, 2, 2, 3, 3, 4, 5, 5};
        for (int i = 0; i < names.length; i++) {
            Check.due("state of " + names[i], desk.state(names[i]), due[i]);
        }
    }

    private static void stateIsJustAName() {
        Check.sentence("IllegalArgumentException: it is not just a name (state)");
        Desk desk = zone();
        byte[] name = Desk.name("ex.");
        byte[][] tapes = {{}, Desk.bytes(1), Desk.join(name, new byte[1]), Desk.join(name, name), Desk.bytes(2, 'e', 'x'),
            Desk.join(Desk.name("far."), new byte[1])};
        for (int i = 0; i < tapes.length; i++) {
            desk.tape(tapes[i]);
            Check.due("tape " + i, Check.of(() -> desk.zone.state()), BAD);
            Check.due("the tape stays", desk.zone.count(0), tapes[i].length);
        }
    }

    // 14: count

    private static void countOfEach() {
        Check.sentence("0: the TAPE's length; 1: RECORDS; 2: RRSETS; 3: names with RECORDS; 4: names that are THERE; 5: names in THE CHAIN; "
                + "6: CUTS ... 7: SERIAL");
        Desk desk = zone();
        desk.zone.serial(-7);
        desk.put("a.b.c.ex.", 99, 1, Desk.bytes(1));
        desk.put("a.b.c.ex.", 99, 1, Desk.bytes(2));
        desk.put("a.b.c.ex.", 98, 1, Desk.bytes(2));
        desk.put("z.b.c.ex.", 98, 1, Desk.bytes(2));
        desk.tape(Desk.bytes(1, 2, 3));
        Check.due("counts", counts(desk), "3 5 4 3 5 3 0 -7");
        desk.put("c.ex.", 2, 1, Desk.name("far."));
        Check.due("counts with a cut", counts(desk), "0 6 5 4 5 2 1 -7");
    }

    private static void countOfWhatIsGivenAway() {
        Check.sentence("(1 to 4 and 6 also what is GIVEN AWAY, and the type 6 RECORD)");
        Desk desk = new Desk();
        Check.due("the type 6 record", counts(desk), "0 1 1 1 1 1 0 1");
        desk.put("s.", 2, 1, Desk.name("far."));
        desk.put("t.s.", 2, 1, Desk.name("far."));
        desk.put("a.u.t.s.", 99, 1);
        Check.due("given away", counts(desk), "0 4 4 4 5 2 2 1");
        desk.takeAll("s.", 255);
        Check.due("when a cut went", counts(desk), "0 3 3 3 5 2 1 1");
        desk.takeAll("t.s.", 255);
        Check.due("when both went", counts(desk), "0 2 2 2 5 2 0 1");
    }

    private static void countElse() {
        Check.sentence("Else -1");
        Desk desk = zone();
        for (int what : new int[] {-1, 8, Integer.MIN_VALUE, Integer.MAX_VALUE}) {
            Check.due("count(" + what + ")", Check.of(() -> desk.zone.count(what)), -1);
        }
    }
}
