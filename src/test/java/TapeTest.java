/** Promises 1, 2 and 3: a new object, feed, end; and what leaves the tape empty. */
public final class TapeTest {
    public static void main(String[] args) {
        newObject();
        feed();
        fullTape();
        end();
        whatTakesTheTape();
        Check.end();
    }

    private static void newObject() {
        Desk desk = new Desk();
        int[] counts = {0, 1, 1, 1, 1, 1, 0, 1};
        for (int what = 0; what < counts.length; what++) {
            Check.due("new: count(" + what + ")", desk.zone.count(what), counts[what]);
        }
        Check.due("new: state of the root", desk.state("."), 3);
        Check.due("new: state of com.", desk.state("com."), 1);
        Check.due("new: ask 6", desk.answer(".", 6, true), "0 | . 6 0 . . 1 0 0 0 0 | - | -");
        Check.due("new: ask 1", desk.answer(".", 1, true), "0 | - | . 6 0 . . 1 0 0 0 0; . 47 0 . 6 46 47 | -");
        Check.due("another new one has its own tape", new Desk().zone.count(0), 0);
    }

    private static void feed() {
        ZoneAnswers zone = new ZoneAnswers();
        Check.due("feed", zone.feed(0x01410142, 0x01800000, -1, 0, 0), 20);
        Check.due("feed again", zone.feed(1, 2, 3, 4, 5), 40);
        Check.due("count(0)", zone.count(0), 40);
        zone.end(7);
        Check.due("the highest byte comes first", zone.ask(1, false), 3);
        zone.feed(0, 0x01020304, 0x80FF7F00, 0, 0);
        zone.end(12);
        zone.put(99, 5);
        zone.feed(0, 0, 0, 0, 0);
        zone.end(1);
        zone.ask(99, false);
        int[] due = {0, 0, 0, 0, 1, 2, 3, 4, 128, 255, 127, 0};
        for (int i = 0; i < due.length; i++) {
            Check.due("byteOf(1, 0, " + i + ")", zone.byteOf(1, 0, i), due[i]);
        }
    }

    private static void fullTape() {
        ZoneAnswers zone = new ZoneAnswers();
        for (int i = 1; i <= 3276; i++) {
            Check.due("feed " + i, zone.feed(i, i, i, i, i), 20 * i);
        }
        Check.due("feed with room for 16", Check.of(() -> zone.feed(0, 0, 0, 0, 0)), "IllegalStateException");
        Check.due("the tape stays", zone.count(0), 65520);
        zone.end(65517);
        Check.due("feed with room for 19", Check.of(() -> zone.feed(0, 0, 0, 0, 0)), "IllegalStateException");
        zone.end(65516);
        Check.due("feed with room for 20", Check.of(() -> zone.feed(0, 0, 0, 0, 0)), 65536);
        Check.due("feed without room", Check.of(() -> zone.feed(0, 0, 0, 0, 0)), "IllegalStateException");
        Check.due("end(65536)", Check.of(() -> zone.end(65536)), 65536);
        Check.due("end(65537)", Check.of(() -> zone.end(65537)), "IllegalArgumentException");
    }

    private static void end() {
        ZoneAnswers zone = new ZoneAnswers();
        Check.due("end(0) of none", Check.of(() -> zone.end(0)), 0);
        Check.due("end(1) of none", Check.of(() -> zone.end(1)), "IllegalArgumentException");
        zone.feed(1, 2, 3, 4, 5);
        Check.due("end(20)", Check.of(() -> zone.end(20)), 20);
        Check.due("end(21)", Check.of(() -> zone.end(21)), "IllegalArgumentException");
        Check.due("end(-1)", Check.of(() -> zone.end(-1)), "IllegalArgumentException");
        Check.due("what throws changes nothing", zone.count(0), 20);
        Check.due("end(19)", Check.of(() -> zone.end(19)), 19);
        Check.due("end(20) then", Check.of(() -> zone.end(20)), "IllegalArgumentException");
        Check.due("feed goes on from there", zone.feed(1, 2, 3, 4, 5), 39);
    }

    private static void whatTakesTheTape() {
        Desk desk = new Desk();
        desk.put("a.", 99, 1, Desk.bytes(1));
        Check.due("put empties", desk.zone.count(0), 0);
        desk.put("a.", 99, 1, Desk.bytes(1));
        Check.due("put of what is there empties", desk.zone.count(0), 0);
        desk.take("a.", 99, Desk.bytes(1));
        Check.due("take empties", desk.zone.count(0), 0);
        desk.takeAll("a.", 99);
        Check.due("takeAll empties", desk.zone.count(0), 0);
        desk.ask("a.", 99, true);
        Check.due("ask empties", desk.zone.count(0), 0);
        desk.state("a.");
        Check.due("state empties", desk.zone.count(0), 0);
        desk.origin("a.", 1, 1);
        Check.due("origin empties", desk.zone.count(0), 0);
        Check.due("ask outside", desk.ask("b.", 1, true), 5);
        Check.due("ask outside empties", desk.zone.count(0), 0);
        Check.due("state outside", desk.state("b."), 0);
        Check.due("state outside empties", desk.zone.count(0), 0);
    }
}
