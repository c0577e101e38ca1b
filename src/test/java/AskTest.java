/** Promise 9: ask, by every step of the answering. */
public final class AskTest {
    private static final String START = "ex. 6 300 ns.ex. adm. 1 7200 900 1209600 300";

    public static void main(String[] args) throws IllegalAccessException {
        Check.all(AskTest.class);
    }

    private static Desk zone() {
        Desk desk = new Desk();
        desk.origin("ex.", 3600, 300);
        return desk;
    }

    private static byte[] address(int last) {
        return Desk.bytes(10, 0, 0, last);
    }

    private static void refuses() {
        Desk desk = zone();
        desk.put("a.ex.", 1, 5, address(1));
        desk.ask("a.ex.", 1, false);
        for (int type : new int[] {0, -1, 65536, Integer.MIN_VALUE}) {
            Check.due("ask(" + type + ")", desk.ask("b.ex.", type, true), "IllegalArgumentException");
        }
        Check.due("the tape stays", desk.zone.count(0), 6);
        Check.due("not just a name", Check.of(() -> desk.tape(Desk.name("a."), new byte[1]).zone.ask(1, true)),
                "IllegalArgumentException");
        Check.due("no tape", Check.of(() -> desk.tape().zone.ask(1, true)), "IllegalArgumentException");
        Check.due("the last answering stays", desk.section(1), "a.ex. 1 5 #0a000001");
        for (int type : new int[] {41, 46, 47, 48, 249, 250, 251, 252, 253, 254, 65535}) {
            Check.due("ask(" + type + ")", desk.answer("a.ex.", type, true),
                    "0 | - | " + START + "; a.ex. 47 300 ex. 1 46 47 | -");
        }
    }

    private static void outside() {
        Desk desk = zone();
        desk.ask("ex.", 6, true);
        Check.due("outside", desk.answer("com.", 1, true), "5 | - | - | -");
        Check.due("above", desk.answer(".", 1, true), "5 | - | - | -");
    }

    private static void found() {
        Desk desk = zone();
        desk.put("w.ex.", 28, 7, new byte[16]);
        desk.put("w.ex.", 1, 5, address(2));
        desk.put("w.ex.", 1, 5, address(1));
        Check.due("in the order in which they came", desk.answer("W.Ex.", 1, true),
                "0 | w.ex. 1 5 #0a000002; w.ex. 1 5 #0a000001 | - | -");
        Check.due("all", desk.answer("w.ex.", 255, true),
                "0 | w.ex. 1 5 #0a000002; w.ex. 1 5 #0a000001; w.ex. 28 7 #" + "00".repeat(16) + " | - | -");
        Check.due("the start has its own time", desk.answer("ex.", 6, true),
                "0 | ex. 6 3600 ns.ex. adm. 1 7200 900 1209600 300 | - | -");
        Check.due("all of the origin", desk.answer("ex.", 255, true),
                "0 | ex. 6 3600 ns.ex. adm. 1 7200 900 1209600 300 | - | -");
    }

    private static void cuts() {
        Desk desk = zone();
        desk.put("s.ex.", 2, 60, Desk.name("ns.far."));
        desk.put("s.ex.", 1, 60, address(1));
        desk.put("t.s.ex.", 2, 61, Desk.name("ns.farther."));
        desk.put("t.s.ex.", 43, 61, Desk.bytes(7));
        String plain = "0 | - | s.ex. 2 60 ns.far. | -";
        String proven = "0 | - | s.ex. 2 60 ns.far.; s.ex. 47 300 ex. 2 46 47 | -";
        Check.due("at the cut", desk.answer("s.ex.", 1, false), plain);
        Check.due("at the cut, secure", desk.answer("s.ex.", 255, true), proven);
        Check.due("the cut's own type", desk.answer("s.ex.", 2, true), proven);
        Check.due("below the cut", desk.answer("q.s.ex.", 1, true), proven);
        Check.due("the cut nearest to the origin", desk.answer("a.t.s.ex.", 1, true), proven);
        Check.due("43 of a cut given away", desk.answer("t.s.ex.", 43, true), proven);
        Check.due("43 of a cut without", desk.answer("s.ex.", 43, true),
                "0 | - | " + START + "; s.ex. 47 300 ex. 2 46 47 | -");
        desk.put("ex.", 2, 9, Desk.name("n.far."));
        Check.due("the origin is no cut", desk.answer("ex.", 2, true), "0 | ex. 2 9 n.far. | - | -");
        Check.due("names below the origin are not given away", desk.answer("zz.ex.", 2, false), "3 | - | " + START + " | -");
    }

    private static void cutsWithAddresses() {
        Desk desk = zone();
        desk.put("s.ex.", 2, 60, Desk.name("b.s.ex."));
        desk.put("s.ex.", 2, 60, Desk.name("far."));
        desk.put("s.ex.", 2, 60, Desk.name("a.ex."));
        desk.put("s.ex.", 2, 60, Desk.name("s.ex."));
        desk.put("s.ex.", 2, 60, Desk.name("c.u.ex."));
        desk.put("u.ex.", 2, 60, Desk.name("a.ex."));
        desk.put("c.u.ex.", 1, 4, address(4));
        desk.put("b.s.ex.", 28, 3, new byte[16]);
        desk.put("b.s.ex.", 1, 2, address(2));
        desk.put("b.s.ex.", 99, 2);
        desk.put("a.ex.", 1, 1, address(1));
        desk.put("s.ex.", 1, 6, address(6));
        desk.ask("x.s.ex.", 1, false);
        Check.due("addresses, given away or not", desk.section(3), "b.s.ex. 1 2 #0a000002; b.s.ex. 28 3 #" + "00".repeat(16)
                + "; a.ex. 1 1 #0a000001; s.ex. 1 6 #0a000006; c.u.ex. 1 4 #0a000004");
    }

    private static void signerOfCut() {
        Desk desk = zone();
        desk.put("s.ex.", 2, 60, Desk.name("ns.far."));
        desk.put("s.ex.", 43, 61, Desk.bytes(7));
        desk.put("s.ex.", 43, 61, Desk.bytes(6));
        desk.put("s.ex.", 16, 61, Desk.bytes(0));
        desk.put("s.ex.", 300, 61, Desk.bytes(0));
        Check.due("43 of the cut", desk.answer("s.ex.", 43, true), "0 | s.ex. 43 61 #07; s.ex. 43 61 #06 | - | -");
        Check.due("43 below the cut", desk.answer("a.s.ex.", 43, true),
                "0 | - | s.ex. 2 60 ns.far.; s.ex. 43 61 #07; s.ex. 43 61 #06 | -");
        Check.due("not secure", desk.answer("s.ex.", 1, false), "0 | - | s.ex. 2 60 ns.far. | -");
        Check.due("its link has 2 and 43 alone", desk.answer("t.ex.", 1, true),
                "3 | - | " + START + "; s.ex. 47 300 ex. 2 43 46 47; ex. 47 300 s.ex. 6 46 47 | -");
    }

    private static void noName() {
        Desk desk = zone();
        desk.put("b.ex.", 1, 5, address(1));
        desk.put("x.y.d.ex.", 1, 5, address(1));
        Check.due("not secure", desk.answer("c.ex.", 1, false), "3 | - | " + START + " | -");
        Check.due("two links", desk.answer("c.ex.", 1, true),
                "3 | - | " + START + "; b.ex. 47 300 x.y.d.ex. 1 46 47; ex. 47 300 b.ex. 6 46 47 | -");
        Check.due("one link for both", desk.answer("a.ex.", 1, true), "3 | - | " + START + "; ex. 47 300 b.ex. 6 46 47 | -");
        Check.due("the star is below the longest name that is there", desk.answer("a.z.d.ex.", 1, true),
                "3 | - | " + START + "; x.y.d.ex. 47 300 ex. 1 46 47; b.ex. 47 300 x.y.d.ex. 1 46 47 | -");
        Check.due("below a name with records", desk.answer("p.q.b.ex.", 1, true),
                "3 | - | " + START + "; b.ex. 47 300 x.y.d.ex. 1 46 47 | -");
        desk.put("e.ex.", 2, 5, Desk.name("far."));
        desk.put("a.e.ex.", 1, 5, address(1));
        Check.due("links leave out what is given away", desk.answer("f.ex.", 1, true),
                "3 | - | " + START + "; e.ex. 47 300 ex. 2 46 47; ex. 47 300 b.ex. 6 46 47 | -");
    }

    private static void stars() {
        Desk desk = zone();
        desk.put("*.ex.", 1, 5, address(1));
        desk.put("*.ex.", 16, 6, Desk.bytes(0));
        desk.put("a.b.ex.", 1, 7, address(2));
        String link = "*.ex. 47 300 a.b.ex. 1 16 46 47";
        Check.due("a star", desk.answer("x.y.ex.", 1, false), "0 | x.y.ex. 1 5 #0a000001 | - | -");
        Check.due("a star, secure", desk.answer("a.ex.", 1, true), "0 | a.ex. 1 5 #0a000001 | " + link + " | -");
        Check.due("all of a star", desk.answer("z.ex.", 255, true),
                "0 | z.ex. 1 5 #0a000001; z.ex. 16 6 #00 | a.b.ex. 47 300 ex. 1 46 47 | -");
        Check.due("nothing of a star", desk.answer("z.ex.", 28, true),
                "0 | - | " + START + "; " + link + "; a.b.ex. 47 300 ex. 1 46 47 | -");
        Check.due("nothing of a star, one link", desk.answer("a.ex.", 28, true), "0 | - | " + START + "; " + link + " | -");
        Check.due("no star for names that are there", desk.answer("b.ex.", 1, false), "0 | - | " + START + " | -");
        Check.due("no star from farther up", desk.answer("c.b.ex.", 1, false), "3 | - | " + START + " | -");
        Check.due("the star itself", desk.answer("*.ex.", 1, true), "0 | *.ex. 1 5 #0a000001 | - | -");
        Check.due("below the star", desk.answer("a.*.ex.", 1, false), "3 | - | " + START + " | -");
        desk.takeAll("*.ex.", 255);
        desk.put("d.*.ex.", 1, 5, address(3));
        Check.due("a star that is there without records", desk.answer("x.ex.", 1, false), "3 | - | " + START + " | -");
    }

    private static void starsGivenAway() {
        Desk desk = zone();
        desk.put("*.ex.", 2, 5, Desk.name("n.ex."));
        desk.put("*.ex.", 1, 5, address(4));
        desk.put("n.ex.", 1, 6, address(1));
        Check.due("2 of a star", desk.answer("x.ex.", 2, true),
                "0 | x.ex. 2 5 n.ex. | n.ex. 47 300 ex. 1 46 47 | n.ex. 1 6 #0a000001");
        Check.due("the star itself is a cut", desk.answer("*.ex.", 1, false), "0 | - | *.ex. 2 5 n.ex. | n.ex. 1 6 #0a000001");
        Check.due("its link has no 1", desk.answer("x.ex.", 28, true),
                "0 | - | " + START + "; *.ex. 47 300 n.ex. 2 46 47; n.ex. 47 300 ex. 1 46 47 | -");
    }

    private static void aliases() {
        Desk desk = zone();
        desk.put("a.ex.", 5, 1, Desk.name("B.ex."));
        desk.put("b.ex.", 5, 2, Desk.name("c.ex."));
        desk.put("c.ex.", 1, 3, address(1));
        String both = "a.ex. 5 1 b.ex.; b.ex. 5 2 c.ex.";
        Check.due("on and on", desk.answer("a.ex.", 1, true), "0 | " + both + "; c.ex. 1 3 #0a000001 | - | -");
        Check.due("to nothing", desk.answer("a.ex.", 28, true),
                "0 | " + both + " | " + START + "; c.ex. 47 300 ex. 1 46 47 | -");
        Check.due("5", desk.answer("a.ex.", 5, true), "0 | a.ex. 5 1 b.ex. | - | -");
        Check.due("255", desk.answer("a.ex.", 255, true), "0 | a.ex. 5 1 b.ex. | - | -");
        Check.due("47", desk.answer("b.ex.", 47, false), "0 | b.ex. 5 2 c.ex. | " + START + " | -");
        desk.takeAll("c.ex.", 1);
        Check.due("to no name", desk.answer("a.ex.", 1, true), "3 | " + both + " | " + START
                + "; b.ex. 47 300 ex. 5 46 47; ex. 47 300 a.ex. 6 46 47 | -");
        desk.put("d.ex.", 5, 4, Desk.name("ex."));
        Check.due("to the origin", desk.answer("d.ex.", 6, false),
                "0 | d.ex. 5 4 ex.; ex. 6 3600 ns.ex. adm. 1 7200 900 1209600 300 | - | -");
    }

    private static void aliasesBeyond() {
        Desk desk = zone();
        desk.put("a.ex.", 5, 1, Desk.name("far."));
        Check.due("out of the zone", desk.answer("a.ex.", 1, true), "0 | a.ex. 5 1 far. | - | -");
        desk.put("s.ex.", 2, 2, Desk.name("n.s.ex."));
        desk.put("n.s.ex.", 1, 3, address(1));
        desk.put("b.ex.", 5, 1, Desk.name("x.s.ex."));
        Check.due("to what is given away", desk.answer("b.ex.", 1, true), "0 | b.ex. 5 1 x.s.ex. | "
                + "s.ex. 2 2 n.s.ex.; s.ex. 47 300 ex. 2 46 47 | n.s.ex. 1 3 #0a000001");
        desk.put("*.w.ex.", 5, 6, Desk.name("b.ex."));
        Check.due("by a star", desk.answer("q.w.ex.", 1, true), "0 | q.w.ex. 5 6 b.ex.; b.ex. 5 1 x.s.ex. | "
                + "*.w.ex. 47 300 ex. 5 46 47; s.ex. 2 2 n.s.ex.; s.ex. 47 300 *.w.ex. 2 46 47 | n.s.ex. 1 3 #0a000001");
        desk.put("*.t.ex.", 5, 6, Desk.name("v.ex."));
        Check.due("a link only once", desk.answer("q.t.ex.", 1, true), "3 | q.t.ex. 5 6 v.ex. | "
                + "*.t.ex. 47 300 *.w.ex. 5 46 47; " + START + "; ex. 47 300 a.ex. 6 46 47 | -");
        desk.put("*.u.ex.", 5, 6, Desk.name("s.ex."));
        desk.put("s.ex.", 43, 9, Desk.bytes(1));
        Check.due("43 of a cut by an alias", desk.answer("a.u.ex.", 43, false), "0 | a.u.ex. 5 6 s.ex.; s.ex. 43 9 #01 | - | -");
        desk.takeAll("s.ex.", 255);
        desk.put("s.ex.", 2, 2, Desk.name("n.s.ex."));
        desk.put("*.ex.", 5, 6, Desk.name("s.ex."));
        Check.due("the link of the cut only once", desk.answer("sa.ex.", 1, true), "0 | sa.ex. 5 6 s.ex. | "
                + "s.ex. 47 300 *.t.ex. 2 46 47; s.ex. 2 2 n.s.ex. | n.s.ex. 1 3 #0a000001");
    }

    private static void nineAliases() {
        Desk desk = zone();
        for (int i = 0; i < 9; i++) {
            desk.put("a" + i + ".ex.", 5, i, Desk.name("a" + (i + 1) + ".ex."));
        }
        desk.put("a9.ex.", 1, 9, address(9));
        Check.due("the ninth is the end", desk.ask("a0.ex.", 1, true), 0);
        Check.due("nine", desk.zone.records(1), 9);
        Check.due("nothing more", desk.section(2), "-");
        Check.due("eight", desk.ask("a1.ex.", 1, true), 0);
        Check.due("eight and the address", desk.record(1, 8), "a9.ex. 1 9 #0a000009");
        desk.put("*.l.ex.", 5, 1, Desk.name("x.l.ex."));
        Check.due("round and round", desk.ask("y.l.ex.", 1, true), 0);
        Check.due("nine of a star", desk.zone.records(1), 9);
        Check.due("the last of them", desk.record(1, 8), "x.l.ex. 5 1 x.l.ex.");
        Check.due("its link once", desk.section(2), "*.l.ex. 47 300 ex. 5 46 47");
        Check.due("the ninth to no name", nineToNoName(), "0 9 -");
    }

    private static String nineToNoName() {
        Desk desk = zone();
        for (int i = 0; i < 9; i++) {
            desk.put("a" + i + ".ex.", 5, i, Desk.name("a" + (i + 1) + ".ex."));
        }
        return desk.ask("a0.ex.", 1, true) + " " + desk.zone.records(1) + " " + desk.section(2);
    }

    private static void nothingOfThatType() {
        Desk desk = zone();
        desk.put("b.a.ex.", 1, 5, address(1));
        desk.put("k.ex.", 1, 5, address(1));
        Check.due("at its link", desk.answer("k.ex.", 28, true), "0 | - | " + START + "; k.ex. 47 300 ex. 1 46 47 | -");
        Check.due("there without records", desk.answer("a.ex.", 1, true), "0 | - | " + START + "; ex. 47 300 b.a.ex. 6 46 47 | -");
        Check.due("there without records, all", desk.answer("a.ex.", 255, true),
                "0 | - | " + START + "; ex. 47 300 b.a.ex. 6 46 47 | -");
        desk.put("m.l.ex.", 1, 5, address(1));
        Check.due("over it is a name with records", desk.answer("l.ex.", 1, true),
                "0 | - | " + START + "; k.ex. 47 300 m.l.ex. 1 46 47 | -");
        Check.due("6 at another name", desk.answer("k.ex.", 6, false), "0 | - | " + START + " | -");
        desk.put("d.ex.", 2, 5, Desk.name("far."));
        desk.put("x.d.ex.", 1, 5, address(1));
        desk.put("f.e.ex.", 1, 5, address(1));
        Check.due("over it is a cut", desk.answer("e.ex.", 1, true), "0 | - | " + START + "; d.ex. 47 300 f.e.ex. 2 46 47 | -");
    }

    private static void addresses() {
        Desk desk = zone();
        desk.put("ex.", 15, 5, Desk.bytes(0, 1), Desk.name("m.ex."));
        desk.put("ex.", 15, 5, Desk.bytes(0, 2), Desk.name("far."));
        desk.put("ex.", 15, 5, Desk.bytes(0, 3), Desk.name("s.ex."));
        desk.put("ex.", 15, 5, Desk.bytes(0, 4), Desk.name("n.s.ex."));
        desk.put("ex.", 15, 5, Desk.bytes(0, 5), Desk.name("c.ex."));
        desk.put("ex.", 15, 5, Desk.bytes(0, 6), Desk.name("q.w.ex."));
        desk.put("ex.", 15, 5, Desk.bytes(0, 7), Desk.name("l.ex."));
        desk.put("m.ex.", 28, 6, new byte[16]);
        desk.put("m.ex.", 1, 7, address(2));
        desk.put("m.ex.", 1, 7, address(1));
        desk.put("s.ex.", 2, 6, Desk.name("n.s.ex."));
        desk.put("s.ex.", 1, 6, address(3));
        desk.put("n.s.ex.", 1, 6, address(4));
        desk.put("c.ex.", 5, 6, Desk.name("m.ex."));
        desk.put("*.w.ex.", 1, 6, address(5));
        desk.put("l.ex.", 1, 9, address(9));
        String mail = "m.ex. 1 7 #0a000002; m.ex. 1 7 #0a000001; m.ex. 28 6 #" + "00".repeat(16);
        desk.ask("ex.", 15, false);
        Check.due("15", desk.section(3), mail + "; l.ex. 1 9 #0a000009");
        desk.put("v.ex.", 33, 5, new byte[6], Desk.name("l.ex."));
        desk.put("v.ex.", 33, 5, new byte[6], Desk.name("m.ex."));
        desk.ask("v.ex.", 33, false);
        Check.due("33", desk.section(3), "l.ex. 1 9 #0a000009; " + mail);
        desk.put("ex.", 2, 5, Desk.name("l.ex."));
        desk.put("ex.", 2, 5, Desk.name("n.s.ex."));
        desk.ask("ex.", 2, false);
        Check.due("2", desk.section(3), "l.ex. 1 9 #0a000009");
        desk.ask("ex.", 255, false);
        Check.due("all, 2 before 15", desk.section(3), "l.ex. 1 9 #0a000009; " + mail);
        desk.put("p.ex.", 12, 5, Desk.name("l.ex."));
        Check.due("12 has none", desk.answer("p.ex.", 12, false), "0 | p.ex. 12 5 l.ex. | - | -");
        Check.due("5 has none", desk.answer("c.ex.", 5, false), "0 | c.ex. 5 6 m.ex. | - | -");
    }

    private static void addressesOnce() {
        Desk desk = zone();
        desk.put("m.ex.", 1, 5, address(1));
        desk.put("m.ex.", 15, 5, Desk.bytes(0, 1), Desk.name("m.ex."));
        desk.put("m.ex.", 15, 5, Desk.bytes(0, 2), Desk.name("M.ex."));
        desk.ask("m.ex.", 15, false);
        Check.due("once", desk.section(3), "m.ex. 1 5 #0a000001");
        desk.ask("m.ex.", 255, false);
        Check.due("not what is answered", desk.section(3), "-");
        desk.put("m.ex.", 28, 5, new byte[16]);
        desk.put("*.ex.", 1, 5, address(2));
        desk.put("*.ex.", 15, 5, Desk.bytes(0, 1), Desk.name("*.ex."));
        desk.ask("x.ex.", 255, false);
        Check.due("what is there by a star does go", desk.section(3), "*.ex. 1 5 #0a000002");
        desk.ask("*.ex.", 255, false);
        Check.due("the star itself does not", desk.section(3), "-");
        desk.put("a.ex.", 5, 5, Desk.name("m.ex."));
        desk.ask("a.ex.", 255, false);
        Check.due("none of an alias", desk.section(3), "-");
        desk.ask("a.ex.", 15, false);
        Check.due("behind an alias", desk.section(3), "m.ex. 1 5 #0a000001; m.ex. 28 5 #" + "00".repeat(16));
    }

    private static String linkTime(int time, int minimum) {
        Desk desk = new Desk();
        desk.origin("ex.", time, minimum);
        desk.ask("ex.", 1, true);
        return desk.zone.told(2, 0, 1) + " " + desk.zone.told(2, 1, 1);
    }

    private static void linkTimes() {
        Check.due("the minimum", linkTime(100, 99), "99 99");
        Check.due("the time", linkTime(100, 101), "100 100");
        Check.due("without sign", linkTime(100, -1), "100 100");
        Check.due("without sign, least", linkTime(2147483647, Integer.MIN_VALUE), "2147483647 2147483647");
        Check.due("0", linkTime(100, 0), "0 0");
    }

    private static String linkData(int... types) {
        Desk desk = new Desk();
        desk.origin(".", 1, 1);
        for (int type : types) {
            desk.put("a.", type, 1, Desk.bytes(0, 0, 0, 0));
        }
        desk.ask("a.", 41, true);
        StringBuilder text = new StringBuilder();
        for (int i = 0; i < desk.zone.told(2, 1, 3); i++) {
            text.append(desk.zone.byteOf(2, 1, desk.zone.told(2, 1, 2) + i)).append(' ');
        }
        return text.toString();
    }

    private static void linkTypes() {
        Check.due("1", linkData(1), "0 0 6 64 0 0 0 0 3 ");
        Check.due("7 and 8", linkData(8, 7), "0 0 6 1 128 0 0 0 3 ");
        Check.due("49 and 248", linkData(248, 49), "0 0 32 0 0 0 0 0 3 64" + " 0".repeat(24) + " 128 ");
        Check.due("256", linkData(256), "0 0 6 0 0 0 0 0 3 1 1 128 ");
        Check.due("511, 512 and 65535", linkData(511, 65535, 512), "0 0 6 0 0 0 0 0 3 1 32" + " 0".repeat(31) + " 1 2 1 128 255 32"
                + " 0".repeat(31) + " 1 ");
    }

    /** The links tell the order: each name's next. */
    private static void orderOfNames() {
        String[] names = {".", "*.", "\u0001.", "A.", "aa.", "b.aa.", "ab.", "b.", "*.b.", "a.b.", "z.a.b.", "aa.b.", "c.b.", "c.",
            "z.", "\u0080.", "\u00ff."};
        String[] order = {".", "\u0001.", "*.", "a.", "aa.", "b.aa.", "ab.", "b.", "*.b.", "a.b.", "z.a.b.", "aa.b.", "c.b.", "c.",
            "z.", "\u0080.", "\u00ff."};
        Desk desk = new Desk();
        for (int i = names.length - 1; i > 0; i--) {
            desk.put(names[i], 99, 1);
        }
        for (int i = 0; i < order.length; i++) {
            desk.ask(order[i], 41, true);
            Check.due("the name behind " + order[i], desk.record(2, 1),
                    order[i] + " 47 0 " + order[(i + 1) % order.length] + (i == 0 ? " 6" : "") + " 46 47" + (i == 0 ? "" : " 99"));
        }
    }
}
