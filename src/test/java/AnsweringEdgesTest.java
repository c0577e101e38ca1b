/** The document's ANSWERING: each sentence that names an edge has a test of its own. */
public final class AnsweringEdgesTest {
    /** The type 6 record as it goes to section 2, with the time of links. */
    private static final String START = "ex. 6 300 ns.ex. adm. 1 7200 900 1209600 300";
    private static final String NO_ADDRESS = "00".repeat(16);

    public static void main(String[] args) throws IllegalAccessException {
        Check.all(AnsweringEdgesTest.class);
    }

    private static Desk zone() {
        Desk desk = new Desk();
        desk.origin("ex.", 3600, 300);
        return desk;
    }

    private static byte[] address(int last) {
        return Desk.bytes(10, 0, 0, last);
    }

    // a.

    private static void outsideIsTheEnd() {
        Check.sentence("N is not AT OR BELOW the ORIGIN: the end");
        Desk desk = new Desk();
        desk.origin("b.ex.", 3600, 300);
        desk.put("*.b.ex.", 99, 1);
        String[] targets = {".", "ex.", "c.ex.", "ab.ex.", "b.ex.far."};
        for (String target : targets) {
            desk.put("a.b.ex.", 5, 1, Desk.name(target));
            Check.due("an alias of " + target, desk.answer("a.b.ex.", 1, true), "0 | a.b.ex. 5 1 " + target + " | - | -");
            desk.takeAll("a.b.ex.", 5);
        }
        desk.put("a.b.ex.", 5, 1, Desk.name("b.ex."));
        desk.ask("a.b.ex.", 6, true);
        Check.due("the origin is not outside", desk.zone.records(1), 2);
    }

    // b.

    private static void cutNearestToTheOrigin() {
        Check.sentence("Of the CUTS that N is AT OR BELOW the one nearest to the ORIGIN");
        Desk desk = zone();
        desk.put("c.b.a.ex.", 2, 3, Desk.name("far."));
        desk.put("a.ex.", 2, 1, Desk.name("far."));
        desk.put("b.a.ex.", 2, 2, Desk.name("far."));
        desk.put("aa.ex.", 99, 1);
        String nearest = "0 | - | a.ex. 2 1 far. | -";
        for (String name : new String[] {"a.ex.", "z.a.ex.", "b.a.ex.", "z.b.a.ex.", "c.b.a.ex.", "z.c.b.a.ex."}) {
            Check.due("at or below it: " + name, desk.answer(name, 1, false), nearest);
        }
        Check.due("beside it", desk.answer("aa.ex.", 99, false), "0 | aa.ex. 99 1 # | - | -");
        desk.takeAll("a.ex.", 2);
        Check.due("when it went", desk.answer("c.b.a.ex.", 1, false), "0 | - | b.a.ex. 2 2 far. | -");
        Check.due("above the cuts", desk.answer("a.ex.", 1, false), "0 | - | " + START + " | -");
    }

    private static void cutAskedFor43() {
        Check.sentence("if there is one and not (N is it and T is 43)");
        Desk desk = zone();
        desk.put("s.ex.", 2, 1, Desk.name("far."));
        desk.put("s.ex.", 43, 2, Desk.bytes(7));
        desk.put("t.s.ex.", 2, 3, Desk.name("far."));
        desk.put("t.s.ex.", 43, 4, Desk.bytes(8));
        String referred = "0 | - | s.ex. 2 1 far. | -";
        Check.due("43 of it", desk.answer("s.ex.", 43, false), "0 | s.ex. 43 2 #07 | - | -");
        Check.due("43 below it", desk.answer("a.s.ex.", 43, false), referred);
        Check.due("43 of a cut below it", desk.answer("t.s.ex.", 43, false), referred);
        for (int type : new int[] {2, 42, 44, 47, 255}) {
            Check.due(type + " of it", desk.answer("s.ex.", type, false), referred);
        }
        desk.takeAll("s.ex.", 43);
        Check.due("43 that is not there", desk.answer("s.ex.", 43, true), "0 | - | " + START + "; s.ex. 47 300 ex. 2 46 47 | -");
    }

    private static void cutWithout43() {
        Check.sentence("SECURE: its RRSET of type 43 too, or, without one, its LINK");
        Desk desk = zone();
        desk.put("s.ex.", 2, 1, Desk.name("far."));
        desk.put("t.s.ex.", 43, 4, Desk.bytes(8));
        Check.due("without", desk.answer("t.s.ex.", 1, true), "0 | - | s.ex. 2 1 far.; s.ex. 47 300 ex. 2 46 47 | -");
        desk.put("s.ex.", 43, 2, Desk.bytes(7));
        desk.put("s.ex.", 43, 2, Desk.bytes(6));
        Check.due("with", desk.answer("t.s.ex.", 1, true), "0 | - | s.ex. 2 1 far.; s.ex. 43 2 #07; s.ex. 43 2 #06 | -");
    }

    private static void cutSecureOrNot() {
        Check.sentence("its RRSET of type 2 goes to 2; SECURE: ...");
        Desk desk = zone();
        desk.put("s.ex.", 2, 1, Desk.name("far."));
        desk.put("s.ex.", 2, 1, Desk.name("a.far."));
        Check.due("not secure, without 43", desk.answer("s.ex.", 1, false), "0 | - | s.ex. 2 1 far.; s.ex. 2 1 a.far. | -");
        desk.put("s.ex.", 43, 2, Desk.bytes(7));
        Check.due("not secure, with 43", desk.answer("s.ex.", 1, false), "0 | - | s.ex. 2 1 far.; s.ex. 2 1 a.far. | -");
    }

    private static void cutAddressesInOrder() {
        Check.sentence("for each name in the RRSET of type 2, in order, the RRSETS of types 1 and 28 at it go to 3");
        Desk desk = zone();
        desk.put("s.ex.", 2, 1, Desk.name("z.ex."));
        desk.put("s.ex.", 2, 1, Desk.name("a.ex."));
        desk.put("s.ex.", 2, 1, Desk.name("w.ex."));
        desk.put("z.ex.", 28, 2, new byte[16]);
        desk.put("z.ex.", 1, 3, address(2));
        desk.put("z.ex.", 1, 3, address(1));
        desk.put("z.ex.", 99, 3);
        desk.put("a.ex.", 28, 4, new byte[16]);
        desk.put("*.ex.", 1, 5, address(5));
        desk.ask("s.ex.", 1, false);
        Check.due("1 before 28, no star", desk.section(3),
                "z.ex. 1 3 #0a000002; z.ex. 1 3 #0a000001; z.ex. 28 2 #" + NO_ADDRESS + "; a.ex. 28 4 #" + NO_ADDRESS);
        desk.put("a.ex.", 1, 4, address(4));
        desk.put("s.ex.", 2, 1, Desk.name("c.ex."));
        desk.put("c.ex.", 5, 1, Desk.name("a.ex."));
        desk.ask("s.ex.", 1, false);
        Check.due("no alias is followed", desk.zone.records(3), 5);
    }

    private static void cutAddressesOutside() {
        Check.sentence("go to 3, if it is AT OR BELOW the ORIGIN");
        Desk desk = zone();
        desk.put("s.ex.", 2, 1, Desk.name("."));
        desk.put("s.ex.", 2, 1, Desk.name("far."));
        desk.put("s.ex.", 2, 1, Desk.name("bex."));
        desk.put("s.ex.", 2, 1, Desk.name("ex."));
        desk.put("ex.", 1, 9, address(9));
        desk.ask("s.ex.", 1, false);
        Check.due("the origin's own", desk.section(3), "ex. 1 9 #0a000009");
    }

    private static void cutAddressesGivenAwayOrNot() {
        Check.sentence("(GIVEN AWAY or not)");
        Desk desk = zone();
        String[] names = {"s.ex.", "a.s.ex.", "a.ex.", "u.ex.", "b.u.ex."};
        desk.put("u.ex.", 2, 1, Desk.name("far."));
        StringBuilder due = new StringBuilder();
        for (int i = 0; i < names.length; i++) {
            desk.put("s.ex.", 2, 1, Desk.name(names[i]));
            desk.put(names[i], 1, i, address(i));
            due.append(i == 0 ? "" : "; ").append(names[i]).append(" 1 ").append(i).append(" #0a00000").append(i);
        }
        desk.ask("q.s.ex.", 1, false);
        Check.due("cuts, what is below, and what is not", desk.section(3), due.toString());
    }

    // c.

    private static void thereIsNoStar() {
        Check.sentence("N is THERE: F is N");
        Desk desk = zone();
        desk.put("*.ex.", 1, 1, address(1));
        desk.put("b.a.ex.", 1, 2, address(2));
        desk.put("c.ex.", 99, 1);
        Check.due("there without records", desk.answer("a.ex.", 1, false), "0 | - | " + START + " | -");
        Check.due("there with other records", desk.answer("c.ex.", 1, false), "0 | - | " + START + " | -");
        Check.due("the origin", desk.answer("ex.", 1, false), "0 | - | " + START + " | -");
        desk.takeAll("b.a.ex.", 255);
        Check.due("when the one below went", desk.answer("a.ex.", 1, false), "0 | a.ex. 1 1 #0a000001 | - | -");
    }

    private static void longestNameThatIsThere() {
        Check.sentence("Else C is the longest name above N that is THERE");
        Desk desk = zone();
        desk.put("*.ex.", 1, 1, address(1));
        desk.put("*.b.ex.", 1, 2, address(2));
        desk.put("x.d.c.ex.", 1, 3, address(3));
        Check.due("the origin", desk.answer("z.ex.", 1, false), "0 | z.ex. 1 1 #0a000001 | - | -");
        Check.due("the origin from far below", desk.answer("w.x.y.z.ex.", 1, false), "0 | w.x.y.z.ex. 1 1 #0a000001 | - | -");
        Check.due("a longer one", desk.answer("y.z.b.ex.", 1, false), "0 | y.z.b.ex. 1 2 #0a000002 | - | -");
        Check.due("a longer one without a star", desk.answer("a.x.d.c.ex.", 1, false), "3 | - | " + START + " | -");
        Check.due("a longer one without records and star", desk.answer("y.d.c.ex.", 1, false), "3 | - | " + START + " | -");
        Check.due("one above that", desk.answer("d.d.ex.", 1, false), "0 | d.d.ex. 1 1 #0a000001 | - | -");
        Check.due("a star that is there", desk.answer("a.*.b.ex.", 1, false), "3 | - | " + START + " | -");
        Desk longest = new Desk();
        longest.put("*.", 99, 1);
        longest.ask("a.".repeat(127), 99, false);
        Check.due("of 127 labels none is there", longest.zone.records(1) + " " + longest.zone.told(1, 0, 2), "1 255");
    }

    private static void starIsOneByte() {
        Check.sentence("if * below C (a label of one byte, 42) has RECORDS, F is that");
        Desk desk = zone();
        for (String label : new String[] {"**", "*a", "a*", ")", "+", "\u00aa", "a.*"}) {
            desk.put(label + ".ex.", 1, 1, address(1));
        }
        Check.due("others are no star", desk.answer("z.ex.", 1, false), "3 | - | " + START + " | -");
        desk.put("*.ex.", 1, 2, address(2));
        Check.due("it", desk.answer("z.ex.", 1, false), "0 | z.ex. 1 2 #0a000002 | - | -");
        Check.due("others are found by it", desk.answer("***.ex.", 1, false), "0 | ***.ex. 1 2 #0a000002 | - | -");
    }

    private static void starWithoutRecords() {
        Check.sentence("if * below C ... has RECORDS, F is that; else: CODE is 3");
        Desk desk = zone();
        desk.put("a.*.ex.", 1, 1, address(1));
        Check.due("a star that is only there", desk.answer("z.ex.", 1, true),
                "3 | - | " + START + "; a.*.ex. 47 300 ex. 1 46 47; ex. 47 300 a.*.ex. 6 46 47 | -");
        Check.due("the star itself is there", desk.answer("*.ex.", 1, false), "0 | - | " + START + " | -");
        desk.put("*.ex.", 1, 1, address(1));
        Check.due("with records", desk.answer("z.ex.", 1, false), "0 | z.ex. 1 1 #0a000001 | - | -");
    }

    private static void code3WhateverIsIn1() {
        Check.sentence("CODE is 3 (whatever is in 1)");
        Desk desk = zone();
        Check.due("nothing", desk.answer("n.ex.", 1, false), "3 | - | " + START + " | -");
        desk.put("a.ex.", 5, 1, Desk.name("b.ex."));
        Check.due("an alias", desk.answer("a.ex.", 1, false), "3 | a.ex. 5 1 b.ex. | " + START + " | -");
        desk.put("b.ex.", 5, 2, Desk.name("x.y.ex."));
        Check.due("two", desk.answer("a.ex.", 1, false), "3 | a.ex. 5 1 b.ex.; b.ex. 5 2 x.y.ex. | " + START + " | -");
    }

    private static void code3HasTheTimeOfLinks() {
        Check.sentence("the type 6 RRSET goes to 2, with the TIME of LINKS");
        int[][] times = {{7, 8, 7}, {8, 7, 7}, {7, -1, 7}, {0, 9, 0}};
        for (int[] row : times) {
            Desk desk = new Desk();
            desk.origin("ex.", row[0], row[1]);
            desk.ask("n.ex.", 1, true);
            Check.due("its type and time", desk.zone.told(2, 0, 0) + " " + desk.zone.told(2, 0, 1), "6 " + row[2]);
            desk.ask("ex.", 6, true);
            Check.due("in 1 it has its own", desk.zone.told(1, 0, 1), row[0]);
        }
    }

    private static void code3LinksOverBoth() {
        Check.sentence("SECURE: the LINK over N, and the one over * below C, go to 2");
        Desk desk = zone();
        desk.put("b.ex.", 99, 1);
        desk.put("!.ex.", 99, 1);
        desk.put("x.c.ex.", 99, 1);
        String first = "!.ex. 47 300 b.ex. 46 47 99";
        String second = "b.ex. 47 300 x.c.ex. 46 47 99";
        String third = "x.c.ex. 47 300 ex. 46 47 99";
        Check.due("over N first", desk.answer("bb.ex.", 1, true), "3 | - | " + START + "; " + second + "; " + first + " | -");
        Check.due("below a name without records", desk.answer("y.c.ex.", 1, true),
                "3 | - | " + START + "; " + third + "; " + second + " | -");
        Check.due("one for both", desk.answer("a.ex.", 1, true), "3 | - | " + START + "; " + first + " | -");
        Check.due("not secure", desk.answer("bb.ex.", 1, false), "3 | - | " + START + " | -");
        Check.due("N before the star", desk.answer("\u0000.ex.", 1, true),
                "3 | - | " + START + "; ex. 47 300 !.ex. 6 46 47; " + first + " | -");
    }

    // d.

    private static void aliasButFor5And255() {
        Check.sentence("F has an RRSET of type 5, and T is neither 5 nor 255");
        Desk desk = zone();
        desk.put("a.ex.", 5, 1, Desk.name("b.ex."));
        desk.put("b.ex.", 99, 2);
        for (int type : new int[] {5, 255}) {
            Check.due("asked for " + type, desk.answer("a.ex.", type, true), "0 | a.ex. 5 1 b.ex. | - | -");
        }
        for (int type : new int[] {1, 4, 6, 43, 46, 254, 256, 65535}) {
            Check.due("asked for " + type, desk.answer("a.ex.", type, false), "0 | a.ex. 5 1 b.ex. | " + START + " | -");
        }
    }

    private static void aliasWithTheNameN() {
        Check.sentence("it goes to 1, with the name N");
        Desk desk = zone();
        desk.put("*.a.ex.", 5, 1, Desk.name("x.b.ex."));
        desk.put("*.b.ex.", 5, 2, Desk.name("c.ex."));
        desk.put("c.ex.", 99, 3);
        Check.due("by stars", desk.answer("Q.a.ex.", 99, false), "0 | q.a.ex. 5 1 x.b.ex.; x.b.ex. 5 2 c.ex.; c.ex. 99 3 # | - | -");
        Check.due("by no star", desk.answer("*.a.ex.", 99, false), "0 | *.a.ex. 5 1 x.b.ex.; x.b.ex. 5 2 c.ex.; c.ex. 99 3 # | - | -");
    }

    private static void aliasByAStar() {
        Check.sentence("if F is not N and SECURE, the LINK over N goes to 2 (of an alias)");
        Desk desk = zone();
        desk.put("*.a.ex.", 5, 1, Desk.name("c.ex."));
        desk.put("c.ex.", 99, 3);
        String found = "c.ex.; c.ex. 99 3 # | ";
        Check.due("secure", desk.answer("q.a.ex.", 99, true), "0 | q.a.ex. 5 1 " + found + "*.a.ex. 47 300 c.ex. 5 46 47 | -");
        Check.due("not secure", desk.answer("q.a.ex.", 99, false), "0 | q.a.ex. 5 1 " + found + "- | -");
        Check.due("F is N", desk.answer("*.a.ex.", 99, true), "0 | *.a.ex. 5 1 " + found + "- | -");
        Check.due("asked for 5", desk.answer("q.a.ex.", 5, true), "0 | q.a.ex. 5 1 c.ex. | *.a.ex. 47 300 c.ex. 5 46 47 | -");
        Check.due("the link before a link at the end", desk.answer("q.a.ex.", 1, true),
                "0 | q.a.ex. 5 1 c.ex. | *.a.ex. 47 300 c.ex. 5 46 47; " + START + "; c.ex. 47 300 ex. 46 47 99 | -");
    }

    private static Desk aliases(int many) {
        Desk desk = zone();
        for (int i = 0; i < many; i++) {
            desk.put("a" + i + ".ex.", 5, 1, Desk.name("a" + (i + 1) + ".ex."));
        }
        return desk;
    }

    private static void nineAliases() {
        Check.sentence("If that makes 9 such, the end; else on with a");
        Desk eight = aliases(8);
        Check.due("8 to no name", eight.ask("a0.ex.", 1, true), 3);
        eight.put("a8.ex.", 1, 9, address(9));
        Check.due("8 to a name", eight.ask("a0.ex.", 1, true) + " " + eight.zone.records(1), "0 9");
        Check.due("the record behind 8", eight.record(1, 8), "a8.ex. 1 9 #0a000009");
        Desk nine = aliases(9);
        Check.due("9 to no name", nine.ask("a0.ex.", 1, true) + " " + nine.zone.records(1) + " " + nine.section(2), "0 9 -");
        nine.put("a9.ex.", 1, 9, address(9));
        Check.due("9 to a name", nine.ask("a0.ex.", 1, true) + " " + nine.zone.records(1) + " " + nine.section(2), "0 9 -");
        Check.due("the ninth", nine.record(1, 8), "a8.ex. 5 1 a9.ex.");
        Desk ten = aliases(10);
        Check.due("10", ten.ask("a0.ex.", 1, true) + " " + ten.zone.records(1), "0 9");
    }

    private static void aliasRoundAndRound() {
        Check.sentence("If that makes 9 such, the end (an alias of itself)");
        Desk desk = zone();
        desk.put("a.ex.", 5, 1, Desk.name("a.ex."));
        Check.due("of itself", desk.answer("a.ex.", 1, true), "0 | " + "a.ex. 5 1 a.ex.; ".repeat(8) + "a.ex. 5 1 a.ex. | - | -");
        desk.put("b.ex.", 5, 1, Desk.name("c.ex."));
        desk.put("c.ex.", 5, 2, Desk.name("b.ex."));
        Check.due("of each other", desk.answer("b.ex.", 1, true),
                "0 | " + "b.ex. 5 1 c.ex.; c.ex. 5 2 b.ex.; ".repeat(4) + "b.ex. 5 1 c.ex. | - | -");
        desk.put("*.d.ex.", 5, 1, Desk.name("x.d.ex."));
        desk.ask("y.d.ex.", 1, true);
        Check.due("by a star, one link", desk.zone.records(1) + " " + desk.section(2), "9 *.d.ex. 47 300 ex. 5 46 47");
    }

    // e.

    private static void allByRisingType() {
        Check.sentence("T is 255: all RRSETS of F, by rising type");
        Desk desk = zone();
        for (int type : new int[] {65535, 300, 99, 4, 256, 3}) {
            desk.put("a.ex.", type, type, Desk.bytes(2));
            desk.put("a.ex.", type, type, Desk.bytes(1));
        }
        StringBuilder due = new StringBuilder();
        for (int type : new int[] {3, 4, 99, 256, 300, 65535}) {
            due.append(due.length() == 0 ? "" : "; ").append("a.ex. ").append(type).append(' ').append(type).append(" #02; a.ex. ")
                    .append(type).append(' ').append(type).append(" #01");
        }
        Check.due("all", desk.answer("a.ex.", 255, true), "0 | " + due + " | - | -");
        desk.put("ex.", 7, 7);
        desk.put("ex.", 4, 4);
        Check.due("6 among them", desk.answer("ex.", 255, true),
                "0 | ex. 4 4 #; ex. 6 3600 ns.ex. adm. 1 7200 900 1209600 300; ex. 7 7 # | - | -");
    }

    private static void oneTypeWithTheNameN() {
        Check.sentence("else that of type T, if there is one: to 1, with the name N");
        Desk desk = zone();
        for (int type : new int[] {1, 256, 257, 65535}) {
            desk.put("*.ex.", type, type, address(1));
        }
        for (int type : new int[] {1, 256, 257, 65535}) {
            Check.due("asked for " + type, desk.answer("N.ex.", type, false), "0 | n.ex. " + type + " " + type + " #0a000001 | - | -");
            Check.due("at the star", desk.answer("*.ex.", type, false), "0 | *.ex. " + type + " " + type + " #0a000001 | - | -");
        }
        Check.due("asked for another", desk.answer("n.ex.", 65534, false), "0 | - | " + START + " | -");
    }

    private static void foundByAStar() {
        Check.sentence("if F is not N and SECURE, the LINK over N goes to 2 (of what is found)");
        Desk desk = zone();
        desk.put("*.ex.", 99, 1);
        desk.put("b.ex.", 99, 2);
        String star = "*.ex. 47 300 b.ex. 46 47 99";
        String last = "b.ex. 47 300 ex. 46 47 99";
        for (int type : new int[] {99, 255}) {
            Check.due("behind the star", desk.answer("a.ex.", type, true), "0 | a.ex. 99 1 # | " + star + " | -");
            Check.due("behind the last", desk.answer("c.ex.", type, true), "0 | c.ex. 99 1 # | " + last + " | -");
            Check.due("before the star", desk.answer("!.ex.", type, true), "0 | !.ex. 99 1 # | ex. 47 300 *.ex. 6 46 47 | -");
            Check.due("not secure", desk.answer("c.ex.", type, false), "0 | c.ex. 99 1 # | - | -");
            Check.due("F is N", desk.answer("*.ex.", type, true), "0 | *.ex. 99 1 # | - | -");
        }
    }

    // f.

    private static void noneAtAName() {
        Check.sentence("None of these: the type 6 RRSET goes to 2 with the TIME of LINKS; SECURE: the LINK at F, if F is in THE CHAIN");
        Desk desk = zone();
        desk.put("a.ex.", 99, 1);
        Check.due("secure", desk.answer("a.ex.", 98, true), "0 | - | " + START + "; a.ex. 47 300 ex. 46 47 99 | -");
        Check.due("not secure", desk.answer("a.ex.", 98, false), "0 | - | " + START + " | -");
        Check.due("6 elsewhere than at the origin", desk.answer("a.ex.", 6, true),
                "0 | - | " + START + "; a.ex. 47 300 ex. 46 47 99 | -");
        Check.due("at the origin", desk.answer("ex.", 98, true), "0 | - | " + START + "; ex. 47 300 a.ex. 6 46 47 | -");
    }

    private static void noneAtANameOutsideTheChain() {
        Check.sentence("the LINK at F, if F is in THE CHAIN, else the one over F");
        Desk desk = zone();
        desk.put("a.b.ex.", 99, 1);
        Check.due("the first that is there without records", desk.answer("b.ex.", 99, true),
                "0 | - | " + START + "; ex. 47 300 a.b.ex. 6 46 47 | -");
        desk.put("a.ex.", 2, 1, Desk.name("far."));
        desk.put("z.a.ex.", 99, 1);
        Check.due("behind what is given away", desk.answer("b.ex.", 99, true),
                "0 | - | " + START + "; a.ex. 47 300 a.b.ex. 2 46 47 | -");
        desk.put("c.d.e.ex.", 99, 1);
        Check.due("two labels up", desk.answer("e.ex.", 99, true), "0 | - | " + START + "; a.b.ex. 47 300 c.d.e.ex. 46 47 99 | -");
    }

    private static void noneByAStar() {
        Check.sentence("if F is not N, the one over N, too");
        Desk desk = zone();
        desk.put("*.ex.", 99, 1);
        desk.put("b.ex.", 99, 2);
        String star = "*.ex. 47 300 b.ex. 46 47 99";
        String last = "b.ex. 47 300 ex. 46 47 99";
        Check.due("two links", desk.answer("c.ex.", 1, true), "0 | - | " + START + "; " + star + "; " + last + " | -");
        Check.due("the same link", desk.answer("a.ex.", 1, true), "0 | - | " + START + "; " + star + " | -");
        Check.due("F is N", desk.answer("*.ex.", 1, true), "0 | - | " + START + "; " + star + " | -");
        Check.due("not secure", desk.answer("c.ex.", 1, false), "0 | - | " + START + " | -");
    }

    /** Where nothing is, all of it is none. */
    private static void noneOf255() {
        Check.sentence("T is 255: all RRSETS of F ... f. None of these");
        Desk desk = zone();
        desk.put("a.b.ex.", 99, 1);
        Check.due("there without records", desk.answer("b.ex.", 255, true), "0 | - | " + START + "; ex. 47 300 a.b.ex. 6 46 47 | -");
    }

    // What holds for all of them

    private static void linkOnlyOnce() {
        Check.sentence("A LINK that is in 2 already does not go there again");
        Desk desk = zone();
        desk.put("*.a.ex.", 5, 1, Desk.name("y.a.ex."));
        desk.put("y.a.ex.", 5, 1, Desk.name("x.a.ex."));
        desk.put("x.a.ex.", 99, 1);
        Check.due("of an alias and the end", desk.answer("xx.a.ex.", 1, true), "0 | xx.a.ex. 5 1 y.a.ex.; y.a.ex. 5 1 x.a.ex. | "
                + "x.a.ex. 47 300 y.a.ex. 46 47 99; " + START + " | -");
        desk.put("s.ex.", 2, 1, Desk.name("far."));
        desk.put("*.ex.", 5, 1, Desk.name("s.ex."));
        Check.due("of an alias and a cut", desk.answer("t.ex.", 1, true),
                "0 | t.ex. 5 1 s.ex. | s.ex. 47 300 ex. 2 46 47; s.ex. 2 1 far. | -");
        Check.due("of a name and its star", desk.answer("q.s.far.ex.", 1, true),
                "0 | q.s.far.ex. 5 1 s.ex. | y.a.ex. 47 300 s.ex. 5 46 47; s.ex. 2 1 far.; s.ex. 47 300 ex. 2 46 47 | -");
        Desk other = zone();
        Check.due("of N and the star in the smallest zone", other.answer("a.ex.", 1, true),
                "3 | - | " + START + "; ex. 47 300 ex. 6 46 47 | -");
    }

    private static void type47AsAnyOther() {
        Check.sentence("(T 47: as any other type of which there is no RRSET.)");
        Desk desk = zone();
        desk.put("a.ex.", 99, 1);
        desk.put("b.ex.", 5, 1, Desk.name("a.ex."));
        desk.put("s.ex.", 2, 1, Desk.name("far."));
        for (int type : new int[] {47, 46, 98}) {
            String link = "a.ex. 47 300 b.ex. 46 47 99";
            Check.due(type + " at a name", desk.answer("a.ex.", type, true), "0 | - | " + START + "; " + link + " | -");
            Check.due(type + ", not secure", desk.answer("a.ex.", type, false), "0 | - | " + START + " | -");
            Check.due(type + " at an alias", desk.answer("b.ex.", type, true), "0 | b.ex. 5 1 a.ex. | " + START + "; " + link + " | -");
            Check.due(type + " at a cut", desk.answer("s.ex.", type, false), "0 | - | s.ex. 2 1 far. | -");
            Check.due(type + " at no name", desk.answer("c.ex.", type, false), "3 | - | " + START + " | -");
        }
    }

    private static void addressesOf2And15And33() {
        Check.sentence("At the end, for each RRSET in 1 of types 2, 15 and 33");
        int[] types = {2, 12, 15, 33, 39, 99};
        String found = "m.ex. 1 5 #0a000005";
        String[] due = {found, "-", found, found, "-", "-"};
        for (int i = 0; i < types.length; i++) {
            Desk desk = zone();
            desk.put("m.ex.", 1, 5, address(5));
            byte[] before = new byte[types[i] == 15 ? 2 : types[i] == 33 ? 6 : 0];
            desk.put("ex.", types[i], 1, before, Desk.name("m.ex."));
            desk.ask("ex.", types[i], false);
            Check.due("of " + types[i], desk.section(3), due[i]);
        }
        Desk desk = zone();
        desk.put("m.ex.", 1, 5, address(5));
        desk.put("a.ex.", 5, 1, Desk.name("m.ex."));
        Check.due("of 5", desk.answer("a.ex.", 5, false), "0 | a.ex. 5 1 m.ex. | - | -");
        Desk root = new Desk();
        root.originOf(1, 1, Desk.name("."), Desk.name("m."), Desk.name("m."));
        root.put("m.", 1, 5, address(5));
        root.ask(".", 6, false);
        Check.due("of 6", root.section(3), "-");
    }

    private static void addressesInOrder() {
        Check.sentence("in order, for each name in it: the RRSETS of types 1 and 28 at it go to 3");
        Desk desk = zone();
        desk.put("*.ex.", 1, 9, address(9));
        for (String name : new String[] {"d.ex.", "c.ex.", "b.ex."}) {
            desk.put(name, 28, 2, new byte[16]);
            desk.put(name, 1, 1, address(2));
            desk.put(name, 1, 1, address(1));
        }
        desk.put("ex.", 33, 1, new byte[6], Desk.name("b.ex."));
        desk.put("ex.", 15, 1, Desk.bytes(9, 9), Desk.name("d.ex."));
        desk.put("ex.", 15, 1, Desk.bytes(0, 0), Desk.name("q.ex."));
        desk.put("ex.", 2, 1, Desk.name("c.ex."));
        desk.ask("ex.", 255, true);
        StringBuilder due = new StringBuilder();
        for (String name : new String[] {"c.ex.", "d.ex.", "b.ex."}) {
            due.append(due.length() == 0 ? "" : "; ").append(name).append(" 1 1 #0a000002; ").append(name).append(" 1 1 #0a000001; ")
                    .append(name).append(" 28 2 #").append(NO_ADDRESS);
        }
        Check.due("2 before 15 before 33, and no star", desk.section(3), due.toString());
    }

    private static void addressesOutside() {
        Check.sentence("go to 3, if it is AT OR BELOW the ORIGIN and ...");
        Desk desk = zone();
        desk.put("ex.", 1, 5, address(5));
        for (String name : new String[] {".", "far.", "aex.", "ex."}) {
            desk.put("ex.", 15, 1, Desk.bytes(0, 0), Desk.name(name));
        }
        desk.ask("ex.", 15, false);
        Check.due("the origin's own", desk.section(3), "ex. 1 5 #0a000005");
    }

    private static void addressesOfCutsAndBelow() {
        Check.sentence("and neither a CUT nor GIVEN AWAY");
        Desk desk = zone();
        desk.put("s.ex.", 2, 1, Desk.name("far."));
        String[] names = {"s.ex.", "a.s.ex.", "t.s.ex.", "b.t.s.ex.", "ss.ex.", "ex."};
        desk.put("t.s.ex.", 2, 1, Desk.name("far."));
        for (int i = 0; i < names.length; i++) {
            desk.put(names[i], 1, i, address(i));
            desk.put("ex.", 15, 1, Desk.bytes(0, i), Desk.name(names[i]));
            desk.put("ex.", 2, 1, Desk.name(names[i]));
        }
        for (int type : new int[] {15, 2}) {
            desk.ask("ex.", type, true);
            Check.due("of " + type, desk.section(3), "ss.ex. 1 4 #0a000004; ex. 1 5 #0a000005");
        }
    }

    private static void addressesNotThereAlready() {
        Check.sentence("None goes to 3 that is there already");
        Desk desk = zone();
        desk.put("m.ex.", 1, 5, address(5));
        desk.put("ex.", 15, 1, Desk.bytes(0, 1), Desk.name("m.ex."));
        desk.put("ex.", 15, 1, Desk.bytes(0, 2), Desk.name("m.ex."));
        desk.put("ex.", 33, 1, new byte[6], Desk.name("m.ex."));
        desk.ask("ex.", 15, false);
        Check.due("two of one RRSET", desk.section(3), "m.ex. 1 5 #0a000005");
        desk.put("m.ex.", 28, 6, new byte[16]);
        desk.ask("ex.", 255, false);
        Check.due("of two RRSETS", desk.section(3), "m.ex. 1 5 #0a000005; m.ex. 28 6 #" + NO_ADDRESS);
    }

    private static void addressesNotIn1() {
        Check.sentence("nor one that is in 1 with its own name");
        Desk desk = zone();
        desk.put("m.ex.", 1, 5, address(5));
        desk.put("m.ex.", 28, 6, new byte[16]);
        desk.put("m.ex.", 15, 1, Desk.bytes(0, 1), Desk.name("m.ex."));
        desk.put("m.ex.", 33, 1, new byte[6], Desk.name("n.ex."));
        desk.put("n.ex.", 1, 7, address(7));
        desk.ask("m.ex.", 255, false);
        Check.due("all", desk.section(3), "n.ex. 1 7 #0a000007");
        desk.ask("m.ex.", 15, false);
        Check.due("only 15", desk.section(3), "m.ex. 1 5 #0a000005; m.ex. 28 6 #" + NO_ADDRESS);
    }

    private static void addressesIn1ByAStar() {
        Check.sentence("(one that is there by a star does go)");
        Desk desk = zone();
        desk.put("*.ex.", 1, 5, address(5));
        desk.put("*.ex.", 15, 1, Desk.bytes(0, 1), Desk.name("*.ex."));
        desk.ask("a.ex.", 255, false);
        Check.due("by a star", desk.section(3), "*.ex. 1 5 #0a000005");
        desk.ask("*.ex.", 255, false);
        Check.due("with its own name", desk.section(3), "-");
    }

    private static void code0() {
        Check.sentence("CODE is 0 if nothing else is said");
        Desk desk = zone();
        desk.put("a.ex.", 5, 1, Desk.name("far."));
        desk.put("s.ex.", 2, 1, Desk.name("far."));
        desk.put("c.b.ex.", 99, 1);
        Check.due("an alias out of the zone", desk.ask("a.ex.", 1, false), 0);
        Check.due("given away", desk.ask("x.s.ex.", 1, false), 0);
        Check.due("found", desk.ask("c.b.ex.", 99, false), 0);
        Check.due("not of that type", desk.ask("c.b.ex.", 1, false), 0);
        Check.due("without records", desk.ask("b.ex.", 1, false), 0);
    }

    private static void code5() {
        Check.sentence("5, and nothing goes anywhere, if Q itself is not AT OR BELOW the ORIGIN");
        Desk desk = new Desk();
        desk.origin("b.ex.", 3600, 300);
        desk.put("*.b.ex.", 99, 1);
        for (String name : new String[] {".", "ex.", "c.ex.", "ab.ex.", "b.ex.far."}) {
            desk.ask("n.b.ex.", 1, true);
            Check.due("ask of " + name, desk.answer(name, 255, true), "5 | - | - | -");
        }
        Check.due("ask of the origin", desk.ask("b.ex.", 255, true), 0);
    }
}
