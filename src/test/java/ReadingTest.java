/** Promises 10 to 14: records, told, byteOf, state, count. */
public final class ReadingTest {
    public static void main(String[] args) throws IllegalAccessException {
        Check.all(ReadingTest.class);
    }

    private static Desk asked() {
        Desk desk = new Desk();
        desk.put("ab.", 99, 7, Desk.bytes(200, 1, 255));
        desk.put("ab.", 99, 7, Desk.bytes());
        desk.ask("ab.", 99, false);
        return desk;
    }

    private static void beforeAnyAnswering() {
        ZoneAnswers zone = new ZoneAnswers();
        for (int section = 1; section <= 3; section++) {
            int s = section;
            Check.due("records(" + s + ")", Check.of(() -> zone.records(s)), 0);
            Check.due("told(" + s + ", 0, 0)", Check.of(() -> zone.told(s, 0, 0)), "NoSuchElementException");
            Check.due("told(" + s + ", 0, 9)", Check.of(() -> zone.told(s, 0, 9)), "NoSuchElementException");
            Check.due("byteOf(" + s + ", 0, 0)", Check.of(() -> zone.byteOf(s, 0, 0)), "NoSuchElementException");
        }
    }

    private static void records() {
        Desk desk = asked();
        Check.due("records(1)", desk.zone.records(1), 2);
        Check.due("records(2)", desk.zone.records(2), 0);
        for (int section : new int[] {0, 4, -1, Integer.MAX_VALUE}) {
            Check.due("records(" + section + ")", Check.of(() -> desk.zone.records(section)), "NoSuchElementException");
        }
        desk.ask("ac.", 1, true);
        Check.due("a link is one", desk.zone.records(1) + " " + desk.zone.records(2), "0 3");
        desk.origin("far.", 1, 1);
        Check.due("of the last answering", desk.zone.records(2), 3);
    }

    private static void told() {
        Desk desk = asked();
        int[] due = {99, 7, 4, 3};
        for (int what = 0; what < 4; what++) {
            Check.due("told(1, 0, " + what + ")", desk.zone.told(1, 0, what), due[what]);
        }
        Check.due("told(1, 1, 3)", desk.zone.told(1, 1, 3), 0);
        for (int what : new int[] {-1, 4, Integer.MIN_VALUE}) {
            Check.due("told(1, 0, " + what + ")", Check.of(() -> desk.zone.told(1, 0, what)), "IllegalArgumentException");
            Check.due("told(1, 2, " + what + ")", Check.of(() -> desk.zone.told(1, 2, what)), "NoSuchElementException");
        }
        for (int k : new int[] {2, -1, Integer.MAX_VALUE}) {
            Check.due("told(1, " + k + ", 0)", Check.of(() -> desk.zone.told(1, k, 0)), "NoSuchElementException");
        }
        for (int section : new int[] {0, 2, 4, -1}) {
            Check.due("told(" + section + ", 0, 0)", Check.of(() -> desk.zone.told(section, 0, 0)), "NoSuchElementException");
        }
    }

    private static void toldAsItWas() {
        Desk desk = asked();
        String before = desk.section(1);
        desk.put("ab.", 99, 8, Desk.bytes(5));
        Check.due("after put", desk.section(1), before);
        desk.take("ab.", 99, Desk.bytes(200, 1, 255));
        Check.due("after take", desk.section(1), before);
        desk.takeAll("ab.", 255);
        Check.due("after takeAll", desk.section(1), before);
        desk.ask("ab.", 1, true);
        String denied = desk.section(2);
        desk.zone.serial(9);
        desk.put("aa.", 99, 8, Desk.bytes(5));
        desk.put(".", 99, 8, Desk.bytes(5));
        Check.due("after serial", desk.section(2), denied);
        desk.origin("ab.", 100, 100);
        Check.due("after origin", desk.section(2), denied);
        desk.tape(Desk.bytes(1));
        Check.of(() -> desk.zone.ask(1, true));
        Check.due("after an ask that throws", desk.section(2), denied);
    }

    private static void byteOf() {
        Desk desk = asked();
        int[] due = {2, 'a', 'b', 0, 200, 1, 255};
        for (int i = 0; i < due.length; i++) {
            Check.due("byteOf(1, 0, " + i + ")", desk.zone.byteOf(1, 0, i), due[i]);
        }
        for (int i : new int[] {7, -1, Integer.MIN_VALUE, Integer.MAX_VALUE}) {
            Check.due("byteOf(1, 0, " + i + ")", Check.of(() -> desk.zone.byteOf(1, 0, i)), "IndexOutOfBoundsException");
            Check.due("byteOf(1, 2, " + i + ")", Check.of(() -> desk.zone.byteOf(1, 2, i)), "NoSuchElementException");
        }
        Check.due("byteOf(1, 1, 3)", desk.zone.byteOf(1, 1, 3), 0);
        Check.due("byteOf(1, 1, 4)", Check.of(() -> desk.zone.byteOf(1, 1, 4)), "IndexOutOfBoundsException");
        Check.due("byteOf(1, -1, 0)", Check.of(() -> desk.zone.byteOf(1, -1, 0)), "NoSuchElementException");
        Check.due("byteOf(0, 0, 0)", Check.of(() -> desk.zone.byteOf(0, 0, 0)), "NoSuchElementException");
        Check.due("byteOf(4, 0, 0)", Check.of(() -> desk.zone.byteOf(4, 0, 0)), "NoSuchElementException");
    }

    /** Names with records: ex., k.ex., c.b.ex., s.ex. (a cut), t.s.ex. (a cut below it), b.a.t.s.ex. */
    private static Desk delegated() {
        Desk desk = new Desk();
        desk.origin("ex.", 1, 1);
        desk.put("ex.", 2, 1, Desk.name("far."));
        desk.put("k.ex.", 1, 1, new byte[4]);
        desk.put("c.b.ex.", 1, 1, new byte[4]);
        desk.put("b.a.t.s.ex.", 1, 1, new byte[4]);
        desk.put("s.ex.", 2, 1, Desk.name("far."));
        desk.put("s.ex.", 2, 1, Desk.name("farther."));
        desk.put("s.ex.", 1, 1, new byte[4]);
        desk.put("t.s.ex.", 2, 1, Desk.name("far."));
        return desk;
    }

    private static void state() {
        Desk desk = delegated();
        String[] names = {".", "com.", "ax.", "EX.", "k.ex.", "a.k.ex.", "b.ex.", "c.b.ex.", "s.ex.", "u.s.ex.", "t.s.ex.",
            "a.t.s.ex.", "b.a.t.s.ex.", "ss.ex."};
        int[] due = {0, 0, 0, 3, 3, 1, 2, 3, 4, 1, 5, 2, 5, 1};
        for (int i = 0; i < names.length; i++) {
            Check.due("state of " + names[i], desk.state(names[i]), due[i]);
        }
        desk.takeAll("s.ex.", 2);
        Check.due("when the cut went: s.ex.", desk.state("s.ex."), 3);
        Check.due("when the cut went: t.s.ex.", desk.state("t.s.ex."), 4);
        desk.takeAll("t.s.ex.", 255);
        Check.due("when all its records went", desk.state("t.s.ex."), 2);
        Check.due("what was below", desk.state("b.a.t.s.ex."), 3);
        Check.due("not just a name", Check.of(() -> desk.tape(Desk.name("ex."), new byte[1]).zone.state()), "IllegalArgumentException");
        Check.due("the tape stays", desk.zone.count(0), 5);
        Check.due("no tape", Check.of(() -> desk.tape().zone.state()), "IllegalArgumentException");
    }

    private static void counts() {
        Desk desk = delegated();
        int[] due = {0, 9, 8, 6, 8, 4, 2, 1};
        for (int what = 0; what < due.length; what++) {
            Check.due("count(" + what + ")", desk.zone.count(what), due[what]);
        }
        for (int what : new int[] {-1, 8, Integer.MIN_VALUE, Integer.MAX_VALUE}) {
            Check.due("count(" + what + ")", desk.zone.count(what), -1);
        }
        desk.take("s.ex.", 2, Desk.name("far."));
        Check.due("one of two went", desk.zone.count(1) + " " + desk.zone.count(2) + " " + desk.zone.count(6), "8 8 2");
        desk.take("s.ex.", 2, Desk.name("farther."));
        Check.due("the other went", desk.zone.count(1) + " " + desk.zone.count(2) + " " + desk.zone.count(6), "7 7 1");
        Check.due("the chain is longer", desk.zone.count(5), 5);
        desk.takeAll("b.a.t.s.ex.", 255);
        Check.due("what is there", desk.zone.count(4), 6);
        desk.origin("ex.", 1, 1);
        desk.put("a.ex.", 2, 1, Desk.name("far."));
        Check.due("a cut right behind the origin", desk.zone.count(6), 1);
        desk.tape(Desk.bytes(1, 2, 3));
        Check.due("count(0)", desk.zone.count(0), 3);
    }
}
