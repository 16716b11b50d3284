/** THE LAW and THE TAPE in head 1, and promises 8, 9, 12. */
final class EdgesOfLaw {
    private EdgesOfLaw() {
    }

    static void run() {
        linesAndBytes();
        lines();
        signs();
        operands();
        noBlanks();
        names();
        open();
        ints();
        divisions();
        truths();
        theLineThatCounts();
        faults();
        heldWithin();
        withoutAText();
        feeding();
        making();
        loudness();
    }

    /** How LOUD a DEED of WEIGHT 5 is said at once in its own TOWN, by a text that is one. */
    private static int volume(String text) {
        FameAhead x = Due.land(1, 0);
        x.deed(0, 0, 5);
        Edge.is("law of " + text, Due.tell(x, text), 1);
        return x.loud(0, 0);
    }

    private static void gives(String text, int due) {
        Edge.is("loud by " + text, volume(text), due);
    }

    /** A text that is none, by the place of its FAULT; THE LAW stays, and THE TAPE is empty. */
    private static void faulty(String text, int fault) {
        FameAhead x = Due.land(1, 0);
        x.deed(0, 0, 5);
        Due.tell(x, "77");
        Edge.is("law of " + text, Due.tell(x, text), -100 - fault);
        Edge.is("loud behind the FAULT of " + text, x.loud(0, 0), 77);
        Edge.is("THE TAPE behind " + text, x.count(3), 0);
    }

    private static String repeated(String text, int n) {
        return text.repeat(n);
    }

    private static void linesAndBytes() {
        Edge.says(0, "THE LAW is a TEXT by THE TAPE (at most 120 bytes): LINES, one or more, parted by ;");
        gives(repeated("0?1;", 29) + "42", 42);
        gives(repeated("0?1;", 29) + "0042", 42);
        FameAhead x = new FameAhead();
        Edge.is("120 bytes", Due.tell(x, repeated("0?1;", 29) + "0042"), 1);
        World.feed(x, repeated("0?1;", 30));
        Edge.is("121 bytes: the last doesn't come", x.feed('1'), Edge.FULL);
        Edge.is("so it ends too early", x.law(), -220);
        gives("1", 1);
        gives("1;2", 1);
        gives("0?1;2", 2);
        faulty("", 0);
        faulty(";", 0);
        faulty("1;;2", 2);
        faulty("1;", 2);
    }

    private static void lines() {
        Edge.says(0, "LINE: E, or E ? E (what counts if the first is not 0).");
        gives("7", 7);
        gives("1?7", 7);
        gives("2?7", 7);
        gives("-1?7", 7);
        gives("0?7", 0);
        gives("1|0?2|0", 1);
        gives("1?0;9", 0);
        faulty("?7", 0);
        faulty("1?", 2);
        faulty("1??7", 2);
        faulty("1?2?3", 3);
        faulty("(1?2)", 2);
        faulty("1?(2;3)", 4);
    }

    private static void signs() {
        Edge.says(0, "E = A { | A }. A = B { & B }. B = S, or S < S, S = S, S > S. S = P { + P, - P }."
            + " P = O { * O, / O, % O }.");
        gives("0|0|5", 1);
        gives("3&2&0", 0);
        gives("1|0&0", 1);
        gives("(1|0)&0", 0);
        gives("1&2<1", 0);
        gives("(1&2)<2", 1);
        gives("1+2<4", 1);
        gives("2<1+2", 1);
        gives("2=1+1", 1);
        gives("9-3-2", 4);
        gives("9-3+2", 8);
        gives("1+2*3", 7);
        gives("2*3+1", 7);
        gives("40/4/2", 5);
        gives("17%10/2", 3);
        gives("17/2%5", 3);
        gives("2*7%4", 2);
        for (String text : new String[] {"1<2<3", "1=2=3", "1>2>3", "1<2>3", "1>2=3", "1=2<3"}) {
            faulty(text, 3);
        }
        gives("(3>2)>0", 1);
        gives("1<2|3<2", 1);
        gives("1<2&3<2", 0);
        faulty("1||2", 2);
        faulty("1&&2", 2);
        faulty("1<=2", 2);
        faulty("1+*2", 2);
        faulty("1*/2", 2);
        faulty("1*+2", 2);
    }

    private static void operands() {
        Edge.says(0, "O = a number (1 to 4 digits), a NAME, ! O, - O, ( E ).");
        gives("9", 9);
        gives("99", 99);
        gives("0099", 99);
        gives("0000", 0);
        gives("9999-9989", 10);
        faulty("00000", 4);
        faulty("12345", 4);
        faulty("w+12345", 6);
        gives("w", 5);
        gives("!0", 1);
        gives("0--5", 5);
        gives("(5)", 5);
        gives("((5))", 5);
        faulty("b", 0);
        faulty("W", 0);
        faulty("x", 0);
        faulty("ww", 1);
        faulty("w5", 1);
        faulty("5w", 1);
        faulty("5(6)", 1);
        faulty("(5)6", 3);
        faulty("()", 1);
        faulty("+5", 0);
        faulty("5!", 1);
    }

    private static void noBlanks() {
        Edge.says(0, "No blanks.");
        faulty(" 1", 0);
        faulty("1 ", 1);
        faulty("1 +1", 1);
        faulty("1+ 1", 2);
        faulty("1; 2", 2);
        faulty("1\t", 1);
        faulty("1\n", 1);
        faulty("1\0", 1);
        faulty("1" + (char) 255, 1);
    }

    private static void names() {
        Edge.says(0, "NAMES: w WEIGHT, a hours since it was HEARD, d hours from its HOUR till it was HEARD, m MARK,"
            + " t the TOWN in which it is said, p WHO.");
        FameAhead x = new FameAhead();
        for (int i = 0; i < 8; i++) {
            x.town(i == 7 ? 9 : 0);
        }
        x.road(67, 5);
        x.deed(34, 6100, 9);
        x.deed(0, 7000, 1);
        // Names, then by the first DEED in TOWN 7 at 120, as HEARD there at 112, and in TOWN 6 at 100; by the second.
        String[] names = {"w", "a", "d", "m", "t", "p"};
        int[] there = {9, 8, 12, 4, 7, 3};
        int[] atOnce = {9, 0, 0, 4, 6, 3};
        int[] second = {1, 0, 9, 0, 7, 0};
        for (int i = 0; i < names.length; i++) {
            Edge.is("law of " + names[i], Due.tell(x, names[i]), 1);
            Edge.is(names[i] + " in another TOWN", x.loud(0, 7120), there[i]);
            Edge.is(names[i] + " at once in its own", x.loud(0, 6100), atOnce[i]);
            Edge.is(names[i] + " of the least", x.loud(1, 7009), second[i]);
        }
        FameAhead y = Due.land(1, 0);
        Due.tell(y, "10*p+9");
        for (int one = 0; one < 4; one++) {
            y.deed(10 * one, 0, 1);
            int due = 10 * one + 9;
            Edge.is("p in what is SAID", y.said(10 * one, 0), due);
            Edge.is("p in how one is RECEIVED", y.received(one, 0, 0), due);
            Edge.is("p in what one NEEDS", y.needs(10 * one + 2, 0, 0, due), 1);
            Edge.is("p in what one NEEDS, more", y.needs(10 * one + 2, 0, 0, due + 1), Edge.NOT);
            Edge.is("p in the LATEST", y.latest(10 * one + 2, 0, 7, 100 + due), 7);
            Edge.is("p in the LATEST, more", y.latest(10 * one + 2, 0, 7, 101 + due), Edge.NOT);
            Edge.is("p in the first hour", y.first(10 * one, due, 0), 0);
            Edge.is("p in the first hour, more", y.first(10 * one, due + 1, 0), Edge.NOT);
        }
    }

    private static void open() {
        Edge.says(0, "At most 6 of ( ! - ahead of an O are open at once.");
        gives("((((((7))))))", 7);
        faulty("(((((((7)))))))", 6);
        gives("!!!!!!7", 1);
        faulty("!!!!!!!7", 6);
        gives("------7", 7);
        faulty("-------7", 6);
        gives("(!(-(-7)))+1", 1);
        faulty("(!-(!-(7)))", 6);
        faulty("(!-(!-!7))", 6);
        gives("((((((7))))))+((((((7))))))", 14);
        gives("------7*------7", 49);
        gives("((((((9-2))))))", 7);
        faulty("((((((9--2))))))", 8);
        faulty("((((((!9))))))", 6);
        gives("(((((7-(2))))))", 5);
        gives("1?((((((7))))));1", 7);
        gives("!0?!!!!!!7", 1);
        gives("9-1-1-1-1-1-1-1-1", 1);
        gives("(1)+(1)+(1)+(1)+(1)+(1)+(1)", 7);
    }

    private static void ints() {
        Edge.says(0, "Ints that wrap");
        gives("9999*9999*22<0", 1);
        gives("9999*9999*43=4172*1000+747", 1);
        gives("2*1024*1024*1024<0", 1);
        gives("-(2*1024*1024*1024)<0", 1);
        gives("2*1024*1024*1024-1>0", 1);
        gives("2*1024*1024*1024-1+1<0", 1);
        gives("(2*1024*1024*1024)/-1<0", 1);
        gives("(2*1024*1024*1024)%-1=0", 1);
        gives("4*1024*1024*1024", 0);
    }

    private static void divisions() {
        Edge.says(0, "/ and % toward 0, by 0 they give 0");
        gives("7/2", 3);
        gives("-7/2+9", 6);
        gives("7/-2+9", 6);
        gives("-7/-2", 3);
        gives("7%4", 3);
        gives("-7%4+9", 6);
        gives("7%-4", 3);
        gives("-7%-4+9", 6);
        gives("7/0", 0);
        gives("7%0", 0);
        gives("0/0+8", 8);
        gives("8+7/0", 8);
        gives("8-7%0", 8);
        gives("9/(w-w)", 0);
    }

    private static void truths() {
        Edge.says(0, "| & < = > ! give 1, 0");
        gives("10+(7|0)", 11);
        gives("10+(0|-7)", 11);
        gives("10+(0|0)", 10);
        gives("10+(7&9)", 11);
        gives("10+(7&0)", 10);
        gives("10+(0&7)", 10);
        gives("10+(0&0)", 10);
        gives("10+(7&-9)", 11);
        gives("10+(3<4)", 11);
        gives("10+(3<3)", 10);
        gives("10+(4<3)", 10);
        gives("10+(3=3)", 11);
        gives("10+(3=4)", 10);
        gives("10+(4>3)", 11);
        gives("10+(3>3)", 10);
        gives("10+(3>4)", 10);
        gives("10+!0", 11);
        gives("10+!7", 10);
        gives("10+!-1", 10);

        Edge.says(0, "all is worked out");
        gives("1|7/0", 1);
        gives("0&7/0|1", 1);
        gives("1?8;7/0", 8);
        gives("0?7/0;8", 8);
    }

    private static void theLineThatCounts() {
        Edge.says(0, "The first LINE without a first E, or whose first E is not 0, counts; none: 0.");
        gives("0?1;0?2;3;4", 3);
        gives("0?1;5?2;3", 2);
        gives("1?1;1?2", 1);
        gives("0;5", 0);
        gives("1?0;5", 0);
        gives("0?1", 0);
        gives("0?1;0?2;0?3", 0);
        gives("w-5?1;w-4?2;3", 2);
    }

    private static void faults() {
        Edge.says(0, "FAULT: the place (from 0) of the first byte with which no TEXT goes on; the length, if it ends too early.");
        faulty("z", 0);
        faulty(")", 0);
        faulty("1)", 1);
        faulty("(1))", 3);
        faulty("1+z+z", 2);
        faulty("(1;2)", 2);
        faulty("((1)", 4);
        faulty("", 0);
        faulty("(", 1);
        faulty("!", 1);
        faulty("-", 1);
        faulty("1+", 2);
        faulty("1*", 2);
        faulty("1<", 2);
        faulty("w|", 2);
        faulty("w&", 2);
        faulty("1?", 2);
        faulty("1?2;", 4);
        faulty("((((((", 6);
        faulty("(((((((", 6);
        faulty("1;2;3z", 5);
        faulty(repeated("1+", 60), 120);
        faulty(repeated("1+", 59) + "1z", 119);
        faulty(repeated("1+", 59) + "(1", 120);
    }

    private static void heldWithin() {
        Edge.says(0, "It gives how LOUD it is said (held within 0 .. 99).");
        gives("98", 98);
        gives("99", 99);
        gives("100", 99);
        gives("9999", 99);
        gives("1", 1);
        gives("0", 0);
        gives("-1", 0);
        gives("0-9999", 0);
    }

    private static void withoutAText() {
        Edge.says(0, "Without a text: 4 w, less a by 8 (cut), less d by 4 (cut); 0 at least.");
        FameAhead x = new FameAhead();
        for (int deaf : new int[] {0, 3, 4, 7, 8}) {
            x.town(deaf);
        }
        for (int town = 0; town < 5; town++) {
            x.deed(town == 0 ? 1 : 0, 1000 * town + 100, town == 0 ? 9 : 2);
        }
        int[] loss = {0, 0, 1, 1, 2};
        int[] deaf = {0, 3, 4, 7, 8};
        for (int town = 1; town < 5; town++) {
            Edge.is("d " + deaf[town], x.loud(town, 1000 * town + 100 + deaf[town]), 8 - loss[town]);
            Edge.is("d " + deaf[town] + ", a 7", x.loud(town, 1000 * town + 107 + deaf[town]), 8 - loss[town]);
            Edge.is("d " + deaf[town] + ", a 8", x.loud(town, 1000 * town + 108 + deaf[town]), 7 - loss[town]);
        }
        Edge.is("WEIGHT 9 at once", x.loud(0, 100), 36);
        Edge.is("a 7", x.loud(0, 107), 36);
        Edge.is("a 8", x.loud(0, 108), 35);
        Edge.is("a 15", x.loud(0, 115), 35);
        Edge.is("a 279", x.loud(0, 379), 2);
        Edge.is("a 287", x.loud(0, 387), 1);
        Edge.is("a 288", x.loud(0, 388), 0);
        Edge.is("a 296", x.loud(0, 396), 0);
        Edge.is("a 899", x.loud(0, 999), 0);
    }

    private static void feeding() {
        Edge.says(8, "A byte (0 .. 255) comes to THE TAPE: how many it has. BAD, FULL (120).");
        FameAhead x = new FameAhead();
        Edge.is("byte 0", x.feed(0), 1);
        Edge.is("byte 255", x.feed(255), 2);
        for (int i = 3; i <= 120; i++) {
            Edge.is("feed", x.feed('1'), i);
        }
        Edge.is("count(3)", x.count(3), 120);
        Edge.refusedEach("feed", Edge.BAD, new int[] {-1, 256, Edge.LEAST, Edge.MOST}, (y, v) -> y.feed(v));
        Edge.refused("a byte too many", Edge.FULL, World::full, y -> y.feed('1'));
        Edge.refused("a byte too many that is none", Edge.BAD, World::full, y -> y.feed(256));
        Edge.refused("a byte too many below 0", Edge.BAD, World::full, y -> y.feed(-1));
    }

    private static void making() {
        Edge.says(9, "THE TAPE becomes THE LAW: 1; -100 less its FAULT; THE TAPE is empty then.");
        FameAhead x = Due.land(1, 0);
        x.deed(0, 0, 5);
        World.feed(x, "w*3");
        Edge.is("law", x.law(), 1);
        Edge.is("count(3)", x.count(3), 0);
        Edge.is("loud by it", x.loud(0, 0), 15);
        Edge.is("law of an empty TAPE", x.law(), -100);
        Edge.is("still by it", x.loud(0, 0), 15);
        Edge.is("a byte behind it", x.feed('w'), 1);
        Edge.is("another", x.feed('w'), 2);
        Edge.is("law with a FAULT at 1", x.law(), -101);
        Edge.is("count(3) behind a FAULT", x.count(3), 0);
        Edge.is("still by the first", x.loud(0, 0), 15);
        Edge.is("a later law", Due.tell(x, "w+1"), 1);
        Edge.is("by the later", x.loud(0, 0), 6);
        World.feed(x, repeated("1+", 60));
        Edge.is("the farthest FAULT", x.law(), -220);
        Edge.is("a byte behind a full TAPE", x.feed('1'), 1);
    }

    private static void loudness() {
        Edge.says(12, "How LOUD a DEED is said in a TOWN at an hour (0 ahead of being HEARD). BAD.");
        FameAhead x = new FameAhead();
        x.town(2);
        x.town(0);
        x.town(0);
        x.road(1, 24);
        x.deed(0, 10, 5);
        x.deed(0, 1999, 5);
        Due.tell(x, "50");
        Edge.is("an hour ahead in its own TOWN", x.loud(0, 11), 0);
        Edge.is("at the hour in its own TOWN", x.loud(0, 12), 50);
        Edge.is("an hour ahead elsewhere", x.loud(0, 1021), 0);
        Edge.is("at the hour elsewhere", x.loud(0, 1022), 50);
        Edge.is("at the last hour", x.loud(1, 1999), 50);
        Edge.is("HEARD behind the last hour", x.loud(1, 999), 0);
        Edge.is("never HEARD, at hour 0", x.loud(0, 2000), 0);
        Edge.is("never HEARD, at the last hour", x.loud(0, 2999), 0);
        Edge.refusedEach("loud, deed", Edge.BAD, World.NO_DEED, (y, v) -> y.loud(v, 30));
        Edge.refusedEach("loud, th", Edge.BAD, World.NO_TH, (y, v) -> y.loud(0, v));
        Edge.refused("loud in TOWN 8 of eight", Edge.BAD, World::full, y -> y.loud(9, 8000));
        Edge.refused("loud of DEED 10 of ten", Edge.BAD, World::full, y -> y.loud(10, 0));
    }
}
