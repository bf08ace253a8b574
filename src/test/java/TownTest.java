/** Promises 1 to 7: the town, the tape, texts, the law. */
public final class TownTest {
    private static final Due due = new Due("TownTest");

    private static void promise01NewObject() {
        EveryMapWrong x = new EveryMapWrong();
        int[] counts = {6, 0, 0, 0, 1, 0, 0, 0, 0};
        for (int what = 0; what < counts.length; what++) {
            due.is("count(" + what + ") at first", x.count(what), counts[what]);
        }
        due.is("worlds(0) at first", x.worlds(0), 64);
        due.is("drop() at first", x.drop(), -3);
        due.is("back() at first", x.back(), -3);
        due.is("taken(0, 6) at first", x.taken(0, 6), -11);
        due.is("taken(12, 0) at first", x.taken(12, 0), -11);
        due.is("trick(0, 0, 0) at first", x.trick(0, 0, 0), -5);
        for (int s = 0; s < 4; s++) {
            due.is("cell(" + s + ", 0, 0) at first", x.cell(s, 0, 0), -11);
        }
    }

    private static void promise02Town() {
        EveryMapWrong x = new EveryMapWrong();
        due.is("town(9)", x.town(9), 6);
        due.is("town(1)", x.town(1), 9);
        due.is("worlds(0) of one choice", x.worlds(0), 2);
        due.is("town(3)", x.town(3), 1);
        due.is("count(0)", x.count(0), 3);
        for (int n : new int[] {0, 10, -1, Integer.MAX_VALUE, Integer.MIN_VALUE}) {
            due.is("town(" + n + ")", x.town(n), -2);
        }
        due.is("count(0) after refusals", x.count(0), 3);

        x.look(1, 1);
        x.look(2, 0);
        x.goer(12);
        x.image();
        due.is("town(3) again", x.town(3), 3);
        due.is("nothing is seen", x.count(7), 0);
        due.is("nothing is so", x.count(8), 0);
        due.is("there is no image", x.back(), -3);
        due.is("goers stay", x.count(3), 1);

        x.look(1, 1);
        x.image();
        x.map(0, 0, 0, 0);
        due.is("town(2) with a map", x.town(2), -3);
        due.is("town(0) with a map", x.town(0), -2);
        due.is("seen stays by a refusal", x.count(8), 2);
        x.drop();
        due.is("an image stays by a refusal", x.back(), 0);
        due.is("town(2) without the map", x.town(2), 3);
        x.street(0, 1, 0, 1);
        due.is("town(2) with a street", x.town(2), -3);
        due.is("town(10) with a street", x.town(10), -2);
        due.is("count(0) with a street", x.count(0), 2);
    }

    private static void promise03Count() {
        EveryMapWrong x = new EveryMapWrong();
        x.town(5);
        x.map(0, 1, 0, 0);
        x.map(2, 1, 0, 0);
        x.street(0, 1, -1, 1);
        x.street(0, 2, -1, 1);
        x.street(0, 3, -1, 1);
        for (int g = 0; g < 4; g++) {
            x.goer(g);
        }
        for (int t = 0; t < 4; t++) {
            Tape.read(x, "may 1;harm 1;price 1;");
        }
        x.force(3);
        Tape.feed(x, "may 1; ");
        x.look(0, 1);
        x.look(3, 1);
        x.look(4, 0);
        int[] counts = {5, 2, 3, 4, 5, 3, 7, 25, 9};
        for (int what = 0; what < counts.length; what++) {
            due.is("count(" + what + ")", x.count(what), counts[what]);
        }
        due.is("count(-1)", x.count(-1), -2);
        due.is("count(9)", x.count(9), -2);
        due.is("count(least)", x.count(Integer.MIN_VALUE), -2);
    }

    private static void promise04Feed() {
        EveryMapWrong x = new EveryMapWrong();
        due.is("feed(.., 1)", x.feed(0x1234567861L, 1), 1);
        due.is("text() of a alone", x.text(), -100);
        due.is("feed(\"may 1;\", 6)", x.feed(0x6d617920313bL, 6), 6);
        due.is("feed(\"harm 1;p\", 8)", x.feed(0x6861726d20313b70L, 8), 14);
        due.is("feed(\"rice 2;\", 7)", x.feed(0x7f7269636520323bL, 7), 21);
        due.is("text() of the lowest bytes alone, the highest first", x.text(), 1);
        due.is("feed(.., 0)", x.feed(97, 0), -2);
        due.is("feed(.., 9)", x.feed(97, 9), -2);
        due.is("feed(.., -1)", x.feed(97, -1), -2);
        for (int i = 1; i <= 19; i++) {
            due.is("feed(-1, 8) for the time " + i, x.feed(-1L, 8), 8 * i);
        }
        due.is("feed(0, 7)", x.feed(0, 7), 159);
        due.is("feed(0, 2) at 159", x.feed(0, 2), -4);
        due.is("count(6) after the refusal", x.count(6), 159);
        due.is("feed(0, 1) at 159", x.feed(0, 1), 160);
        due.is("feed(0, 1) at 160", x.feed(0, 1), -4);
        due.is("feed(0, 9) at 160", x.feed(0, 9), -2);
        due.is("bytes above 127 begin no token", x.text(), -100);
        due.is("the tape is empty", x.count(6), 0);
    }

    private static void faulty(String text, int place) {
        EveryMapWrong x = new EveryMapWrong();
        due.is("text() of " + text, Tape.read(x, text), -100 - place);
        due.is("count(4) after " + text, x.count(4), 1);
        due.is("count(6) after " + text, x.count(6), 0);
    }

    private static void fine(String text) {
        EveryMapWrong x = new EveryMapWrong();
        due.is("text() of " + text, Tape.read(x, text), 1);
        due.is("count(4) after " + text, x.count(4), 2);
        due.is("count(5) after " + text, x.count(5), 0);
        due.is("count(6) after " + text, x.count(6), 0);
    }

    private static void promise05Text() {
        fine("may 1;harm 1;price 1;");
        fine("  may1;\nharm 1 ; price\n1;  \n");
        fine("may 1and 0or 2;harm 9999;price 0000;");
        fine("may not not a;harm - - far;price (((((1)))));");
        fine("may a=b and c<d;harm far*far-far;price worlds+a*b-c*d;");
        fine("may (not (a<b))=0;harm not not(-1);price -(-(-1)) - -1;");
        fine("may - - - - -1 - - - - - -1;harm not not not not not a and not not not not not b;price 1;");
        fine("may ((((1))))*((((2)))) < (1) or (2);harm -----1-----1;price 1;");
        faulty("", 0);
        faulty("  \n", 3);
        faulty("may", 3);
        faulty("may 1;harm 1;price 1", 20);
        faulty("may 1;harm 1;price 1  ", 22);
        faulty("may 1;harm 1;price 1;;", 21);
        faulty("may 1;harm 1;price 1; may", 22);
        faulty("harm 1;may 1;price 1;", 0);
        faulty("may 1;price 1;harm 1;", 6);
        faulty("may ;harm 1;price 1;", 4);
        faulty("mays 1;harm 1;price 1;", 0);
        faulty("May 1;harm 1;price 1;", 0);
        faulty("may e;harm 1;price 1;", 4);
        faulty("may ab;harm 1;price 1;", 4);
        faulty("may az;harm 1;price 1;", 4);
        faulty("may za;harm 1;price 1;", 4);
        faulty("may a{;harm 1;price 1;", 5);
        faulty("may a`;harm 1;price 1;", 5);
        faulty("may not xy a;harm 1;price 1;", 8);
        faulty("may not @ a;harm 1;price 1;", 8);
        faulty("may - @ a;harm 1;price 1;", 6);
        faulty("may 1 :;harm 1;price 1;", 6);
        faulty("may a,b;harm 1;price 1;", 5);
        faulty("may may;harm 1;price 1;", 4);
        faulty("may world;harm 1;price 1;", 4);
        faulty("may 12345;harm 1;price 1;", 4);
        faulty("may 00001;harm 1;price 1;", 4);
        faulty("may 1 2;harm 1;price 1;", 6);
        faulty("may 1a;harm 1;price 1;", 5);
        faulty("may 1/2;harm 1;price 1;", 5);
        faulty("may 1\t;harm 1;price 1;", 5);
        faulty("may 1>2;harm 1;price 1;", 5);
        faulty("may 1+;harm 1;price 1;", 6);
        faulty("may +1;harm 1;price 1;", 4);
        faulty("may 1**2;harm 1;price 1;", 6);
        faulty("may 1<2<3;harm 1;price 1;", 7);
        faulty("may 1=2=3;harm 1;price 1;", 7);
        faulty("may a<not b;harm 1;price 1;", 6);
        faulty("may -not b;harm 1;price 1;", 5);
        faulty("may 1+not b;harm 1;price 1;", 6);
        faulty("may a not b;harm 1;price 1;", 6);
        faulty("may a and;harm 1;price 1;", 9);
        faulty("may a or or b;harm 1;price 1;", 9);
        faulty("may (a;harm 1;price 1;", 6);
        faulty("may ();harm 1;price 1;", 5);
        faulty("may a);harm 1;price 1;", 5);
        faulty("may ((((((1))))));harm 1;price 1;", 9);
        faulty("may ------1;harm 1;price 1;", 9);
        faulty("may not not not not not not 1;harm 1;price 1;", 24);
        faulty("may not-(not-(1<-1));harm 1;price 1;", 13);
        faulty("may not not not not not a<(b);harm 1;price 1;", 26);
        faulty("may not not not not not a+-b;harm 1;price 1;", 26);
        faulty("may (((((a)+-b))))<((((((1;harm 1;price 1;", 24);
        faulty("may -(-(-1));harm 1;price --(--(-(1)));", 31);
        faulty("may 1;harm 1;price 1;x", 21);
        faulty("may 1;harm @ 12345;price 1;", 11);
        faulty("may 1;har", 6);

        EveryMapWrong x = new EveryMapWrong();
        for (int t = 1; t < 6; t++) {
            due.is("text " + t, Tape.read(x, "may 1;harm 1;price 1;"), t);
        }
        Tape.feed(x, "may 1;harm 1;price 1");
        due.is("a seventh text, with a fault", x.text(), -4);
        due.is("the tape stays", x.count(6), 20);
        Tape.feed(x, ";");
        due.is("a seventh text", x.text(), -4);
        due.is("the tape stays still", x.count(6), 21);
        due.is("six texts", x.count(4), 6);
    }

    private static void promise06Force() {
        EveryMapWrong x = new EveryMapWrong();
        Tape.read(x, "may a;harm 1;price 1;");
        Tape.read(x, "may b;harm 1;price 1;");
        due.is("force(2)", x.force(2), 0);
        due.is("force(1)", x.force(1), 2);
        due.is("count(5)", x.count(5), 1);
        due.is("worlds(0) by a", x.worlds(0), 32);
        due.is("may(2) by a", x.may(2), 0);
        due.is("force(3)", x.force(3), -2);
        due.is("force(-1)", x.force(-1), -2);
        due.is("force(0)", x.force(0), 1);
        due.is("worlds(0) by the first law", x.worlds(0), 64);
    }

    private static void allows(String may, int... towns) {
        EveryMapWrong x = new EveryMapWrong();
        x.town(4);
        Tape.law(x, "may " + may + ";harm 1;price 1;");
        for (int t = 0; t < 16; t++) {
            int due1 = 0;
            for (int town : towns) {
                due1 |= t == town ? 1 : 0;
            }
            due.is("may(" + t + ") by may " + may, x.may(t), due1);
        }
    }

    private static void promise07May() {
        EveryMapWrong x = new EveryMapWrong();
        due.is("may(63)", x.may(63), 1);
        due.is("may(64)", x.may(64), -2);
        due.is("may(-1)", x.may(-1), -2);
        x.look(0, 1);
        due.is("may(0), what was seen does not matter", x.may(0), 1);
        allows("a", 1, 3, 5, 7, 9, 11, 13, 15);
        allows("a and b and c", 7, 15);
        allows("not a and not b and not c", 0, 8);
        allows("a + b*2 + c*4 + d*8 = 6", 6);
        allows("a + b*2 + c*4 + d*8 < 3", 0, 1, 2);
        allows("d*8 + c*4 < b*2 + a", 1, 2, 3);
        allows("not a or b and c and d", 0, 2, 4, 6, 8, 10, 12, 14, 15);
        allows("not (a or b or c) or d and c and b and a", 0, 8, 15);
        allows("not a = b and c = d and d", 13, 14);
        allows("a-b-c-d", 1, 2, 4, 6, 7, 8, 10, 11, 12, 13, 14, 15);
        allows("far or worlds");
        allows("far = worlds and a*b*c*d", 15);
        allows("9999*9999*9999 < 0 and (a and b and c)", 7, 15);
        allows("2*2*2*2*2*2*2*2*2*2*2*2*2*2*2*2*2*2*2*2*2*2*2*2*2*2*2*2*2*2*2*2 or a and b and c and d", 15);
        allows("- a = 0-1 and -b<0 and -(c-2) = 1", 7, 15);
        allows("1 - -1 = 2 and 2 - 3 - 4 = -5 and 2 - 3 * 4 = -10 and a*b*c", 7, 15);
        allows("(a or 2) = 1 and (3 and d) = 1 and (not 5) = 0 and b and c", 14, 15);
        allows("(not 0) = 1 and (1 < 2) = 1 and (3 = 3) = 1 and (2 and 3) = 1 and a*b*c*d", 15);
        allows("(not 2) = 0 and (2 < 2) = 0 and (3 = 2) = 0 and (2 and 0) = 0 and a*b*c*d", 15);
        allows("(7) = 7 and (0 or 7) = 1 and c*d*b", 14, 15);

        EveryMapWrong y = new EveryMapWrong();
        y.town(2);
        Tape.law(y, "may not c and not d;harm 1;price 1;");
        due.is("choices that there are not are not so", y.worlds(0), 4);
    }

    public static void main(String[] args) {
        promise01NewObject();
        promise02Town();
        promise03Count();
        promise04Feed();
        promise05Text();
        promise06Force();
        promise07May();
        due.end();
    }
}
