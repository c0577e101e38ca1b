/** Promises 1, 2 and 3: a new object, feed, end; and what leaves the tape empty. */
public final class TapeTest {
    public static void main(String[] args) throws IllegalAccessException {
        Check.all(TapeTest.class);
    }

    private static void newObject() {
        Desk desk = new Desk();
        int[] counts = {0, 1, 1, 1, 1, 1, 0, 1};
        for (int what = 0; what < counts.length; what++) {
            Check.due("new: count(" + what + ")", desk.zone.count(what), counts[what]);
        }
        Check.due("new: state of the root", desk.state("."), 3);
        Check.due("new: state of com.", desk.state("com."), 1);
        Check.due("new: ask 6", desk.answer(".", 6, true), "0 | . 6 0 . . 1 0 0 0 0 | - | -");
        Check.due("new: ask 1", desk.answer(".", 1, true), "0 | - | . 6 0 . . 1 0 0 0 0; . 47 0 . 6 46 47 | -");
        Check.due("another new one has its own tape", new Desk().zone.count(0), 0);
    }

    private static void feed() {
        ZoneAnswers zone = new ZoneAnswers();
        Check.due("feed", zone.feed(0x01410142, 0x01800000, -1, 0, 0), 20);
        Check.due("feed again", zone.feed(1, 2, 3, 4, 5), 40);
        Check.due("count(0)", zone.count(0), 40);
        zone.end(7);
        Check.due("the highest byte comes first", zone.ask(1, false), 3);
        zone.feed(0, 0x01020304, 0x80FF7F00, 0, 0);
        zone.end(12);
        zone.put(99, 5);
        zone.feed(0, 0, 0, 0, 0);
        zone.end(1);
        zone.ask(99, false);
        int[] due = {0, 0, 0, 0, 1, 2, 3, 4, 128, 255, 127, 0};
        for (int i = 0; i < due.length; i++) {
            Check.due("byteOf(1, 0, " + i + ")", zone.byteOf(1, 0, i), due[i]);
        }
    }

    private static void whatTakesTheTape() {
        Desk desk = new Desk();
        desk.put("a.", 99, 1, Desk.bytes(1));
        Check.due("put empties", desk.zone.count(0), 0);
        desk.put("a.", 99, 1, Desk.bytes(1));
        Check.due("put of what is there empties", desk.zone.count(0), 0);
        desk.take("a.", 99, Desk.bytes(1));
        Check.due("take empties", desk.zone.count(0), 0);
        desk.takeAll("a.", 99);
        Check.due("takeAll empties", desk.zone.count(0), 0);
        desk.ask("a.", 99, true);
        Check.due("ask empties", desk.zone.count(0), 0);
        desk.state("a.");
        Check.due("state empties", desk.zone.count(0), 0);
        desk.origin("a.", 1, 1);
        Check.due("origin empties", desk.zone.count(0), 0);
        Check.due("ask outside", desk.ask("b.", 1, true), 5);
        Check.due("ask outside empties", desk.zone.count(0), 0);
        Check.due("state outside", desk.state("b."), 0);
        Check.due("state outside empties", desk.zone.count(0), 0);
    }
}
