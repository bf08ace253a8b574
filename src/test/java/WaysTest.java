/** Promises 19 to 28: streets, ways, one who goes by a map, harm. */
public final class WaysTest {
    private static final Due due = new Due("WaysTest");

    private static void promise19Street() {
        EveryMapWrong x = new EveryMapWrong();
        due.is("the first street", x.street(0, 5, -1, 99), 0);
        due.is("the second street", x.street(5, 0, 5, 1), 1);
        int[][] bad = {{0, 0, -1, 1}, {-1, 0, -1, 1}, {6, 0, -1, 1}, {0, -1, -1, 1}, {0, 6, -1, 1}, {0, 1, -2, 1},
            {0, 1, 6, 1}, {0, 1, 0, 0}, {0, 1, 0, 100}, {0, 1, 0, -5}};
        for (int[] b : bad) {
            due.is("street(" + b[0] + ", " + b[1] + ", " + b[2] + ", " + b[3] + ")", x.street(b[0], b[1], b[2], b[3]), -2);
        }
        for (int s = 2; s < 12; s++) {
            due.is("street " + s, x.street(0, 1, 0, s), s);
        }
        due.is("a thirteenth street", x.street(0, 1, 0, 1), -4);
        due.is("a thirteenth street that is bad", x.street(1, 1, 0, 1), -2);
        due.is("count(2)", x.count(2), 12);
        due.is("the last street takes", x.taken(11, 6), 11);
    }

    /** Places 0 .. 3: 0-1 if a (1), 1-2 if b (1), 0-2 if c (5), 2-3 always (2). */
    private static EveryMapWrong fourStreets() {
        EveryMapWrong x = new EveryMapWrong();
        x.town(3);
        x.street(0, 1, 0, 1);
        x.street(1, 2, 1, 1);
        x.street(0, 2, 2, 5);
        x.street(2, 3, -1, 2);
        return x;
    }

    private static void promise20Way() {
        EveryMapWrong x = fourStreets();
        due.is("way(3, 7)", x.way(3, 7), 4);
        due.is("way(30, 7)", x.way(30, 7), 4);
        due.is("way(3, 5)", x.way(3, 5), 7);
        due.is("way(3, 3)", x.way(3, 3), 4);
        due.is("way(3, 1)", x.way(3, 1), -1);
        due.is("way(12, 5)", x.way(12, 5), 6);
        due.is("way(21, 5)", x.way(21, 5), 6);
        due.is("way(23, 0)", x.way(23, 0), 2);
        due.is("way(4, 7)", x.way(4, 7), -1);
        for (int p = 0; p < 6; p++) {
            due.is("way from " + p + " to itself", x.way(11 * p, 0), 0);
        }
        for (int two : new int[] {-1, 6, 9, 16, 56, 60, 65, 100, -10, Integer.MIN_VALUE, Integer.MAX_VALUE}) {
            due.is("way(" + two + ", 0)", x.way(two, 0), -5);
            due.is("way(" + two + ", 8)", x.way(two, 8), -5);
        }
        due.is("way(0, 8)", x.way(0, 8), -7);
        due.is("way(4, -1)", x.way(4, -1), -7);
        EveryMapWrong y = new EveryMapWrong();
        for (int p = 0; p < 5; p++) {
            y.street(5 - p, 4 - p, -1, 99);
        }
        due.is("the longest way", y.way(5, 0), 495);
        y.street(5, 0, 3, 99);
        due.is("the longest way, while the short one is shut", y.way(5, 55), 495);
        due.is("the short one", y.way(5, 8), 99);
    }

    private static void promise21Safe() {
        EveryMapWrong x = fourStreets();
        due.is("safe(3) by all towns", x.safe(3), -1);
        due.is("safe(23) by all towns", x.safe(23), 2);
        x.look(2, 1);
        due.is("safe(3) after a look", x.safe(3), 7);
        x.look(0, 1);
        Tape.law(x, "may b;harm far;price 1;");
        due.is("safe(3) by another law", x.safe(3), 4);
        due.is("safe(55)", x.safe(55), 0);
        due.is("safe(6)", x.safe(6), -5);
        due.is("safe(-1)", x.safe(-1), -5);
        x.look(1, 0);
        due.is("safe(3) without worlds", x.safe(3), -3);
        due.is("safe(0) without worlds", x.safe(0), -3);
        due.is("safe(60) without worlds", x.safe(60), -5);
    }

    /** Two choices. To place 5: 0-1 always (2), then 1-5 if a (1) or if b (4); or 0-5 always (10). */
    private static EveryMapWrong seenFromAfar(String may) {
        EveryMapWrong x = new EveryMapWrong();
        x.town(2);
        x.street(0, 1, -1, 2);
        x.street(1, 5, 0, 1);
        x.street(1, 5, 1, 4);
        x.street(0, 5, -1, 10);
        Tape.law(x, "may " + may + ";harm far;price 1;");
        return x;
    }

    /** One choice of two is so. One sees at 0 which; 2 tells nothing, and leads to 3 (5 if a) and 4 (5 if b). */
    private static EveryMapWrong seenAtTheFirst() {
        EveryMapWrong x = new EveryMapWrong();
        x.town(2);
        x.street(0, 1, 0, 50);
        x.street(0, 2, -1, 1);
        x.street(2, 3, -1, 1);
        x.street(2, 4, -1, 1);
        x.street(3, 5, 0, 1);
        x.street(4, 5, 1, 1);
        Tape.law(x, "may a + b = 1;harm far;price 1;");
        return x;
    }

    private static void promise22Soon() {
        EveryMapWrong x = seenFromAfar("a or b");
        due.is("soon(5), one of two is open", x.soon(5), 6);
        due.is("soon(51)", x.soon(51), 4);
        due.is("soon(15)", x.soon(15), 4);
        due.is("soon(55)", x.soon(55), 0);
        due.is("soon(3)", x.soon(3), -1);
        due.is("soon(56)", x.soon(56), -5);
        due.is("soon(-5)", x.soon(-5), -5);
        EveryMapWrong y = seenFromAfar("1");
        due.is("soon(5), none may be open", y.soon(5), 10);
        due.is("soon(15), none may be open", y.soon(15), 12);
        EveryMapWrong z = seenAtTheFirst();
        due.is("what was seen at 0 counts on", z.soon(5), 3);
        due.is("nothing is seen at 2", z.soon(25), 4);
        due.is("all is seen at 3", z.soon(35), 3);
        z.look(0, 1);
        due.is("one world", z.soon(25), 2);
        z.look(1, 1);
        due.is("no world", z.soon(25), -3);
        due.is("no world, one is there", z.soon(22), -3);
        due.is("no world, no two", z.soon(66), -5);

        EveryMapWrong w = new EveryMapWrong();
        w.town(3);
        w.street(0, 1, 0, 1);
        due.is("eight worlds", w.soon(1), -3);
        due.is("eight worlds, one is there", w.soon(0), -3);
        Tape.law(w, "may a or b or c;harm 1;price 1;");
        due.is("seven worlds", w.soon(1), -1);
        w.street(0, 2, 1, 2);
        w.street(0, 3, 2, 3);
        w.street(2, 1, -1, 20);
        w.street(3, 1, -1, 30);
        due.is("seven worlds, one of three is open", w.soon(1), 33);
        due.is("it is not far back", w.soon(31), 30);
        due.is("there is a dead end", w.soon(13), 30);
    }

    private static void promise23Step() {
        EveryMapWrong x = seenFromAfar("a or b");
        due.is("step(5, 1)", x.step(5, 1), 0);
        due.is("step(5, 2)", x.step(5, 2), 0);
        due.is("step(15, 1)", x.step(15, 1), 1);
        due.is("step(15, 2)", x.step(15, 2), 2);
        due.is("step(15, 3)", x.step(15, 3), 1);
        due.is("step(55, 3)", x.step(55, 3), -1);
        due.is("step(3, 3)", x.step(3, 3), -1);
        due.is("step(5, 0) is no world", x.step(5, 0), -3);
        due.is("step(55, 0) is no world", x.step(55, 0), -3);
        due.is("step(5, 4)", x.step(5, 4), -7);
        due.is("step(5, -1)", x.step(5, -1), -7);
        due.is("step(6, 4)", x.step(6, 4), -5);
        due.is("step(60, 0)", x.step(60, 0), -5);
        EveryMapWrong y = seenFromAfar("1");
        due.is("step(5, 3) while none may be open", y.step(5, 3), 3);
        due.is("step(15, 0)", y.step(15, 0), 0);
        EveryMapWrong z = seenAtTheFirst();
        due.is("step(5, 1)", z.step(5, 1), 1);
        due.is("of like streets the first", z.step(25, 1), 1);
        due.is("of like streets the first", z.step(25, 2), 1);
        due.is("step(35, 1)", z.step(35, 1), 4);
        due.is("step(35, 2)", z.step(35, 2), 2);

        EveryMapWrong w = new EveryMapWrong();
        w.town(3);
        w.street(0, 1, 0, 1);
        due.is("eight worlds", w.step(1, 0), -3);
        Tape.law(w, "may a or b or c;harm 1;price 1;");
        due.is("the street is open", w.step(1, 1), 0);
        due.is("the street is shut", w.step(1, 2), -1);
        w.street(0, 1, -1, 1);
        due.is("the first of two that are like", w.step(1, 1), 0);
        due.is("the first of two that are like, if it is open", w.step(1, 2), 1);
    }

    private static void promise24Trip() {
        EveryMapWrong x = fourStreets();
        x.map(0, 7, 0, 0);
        x.map(3, 4, 0, 0);
        x.map(0, 0, 7, 0);
        due.is("trip(0, 3, 7)", x.trip(0, 3, 7), 4);
        due.is("a street is shut", x.trip(0, 3, 5), 9);
        due.is("two are shut", x.trip(0, 3, 1), -1);
        due.is("one that is shut at the beginning takes nothing", x.trip(0, 3, 6), 7);
        due.is("the map does not know the short way", x.trip(1, 3, 7), 7);
        due.is("the map knows no way", x.trip(2, 3, 7), -1);
        due.is("always open streets are on every map", x.trip(2, 23, 0), 2);
        due.is("one is there", x.trip(2, 33, 0), 0);
        due.is("either way", x.trip(0, 30, 5), 7);
        due.is("no such map", x.trip(3, 3, 7), -5);
        due.is("no such map", x.trip(-1, 3, 7), -5);
        due.is("no such two", x.trip(0, 6, 7), -5);
        due.is("no such map, no such town", x.trip(3, 3, 8), -5);
        due.is("no such two, no such town", x.trip(0, 60, 8), -5);
        due.is("no such town", x.trip(0, 3, 8), -7);
        due.is("no such town", x.trip(0, 3, -1), -7);
        x.street(0, 3, -1, 4);
        due.is("the first street of like ways", x.trip(0, 3, 5), 6);
        due.is("the first that is open", x.trip(0, 3, 6), 4);

        EveryMapWrong y = new EveryMapWrong();
        y.town(1);
        y.map(0, 1, 0, 0);
        y.street(0, 1, 0, 1);
        y.street(0, 1, 0, 2);
        y.street(1, 0, -1, 3);
        due.is("each shut street is found by itself", y.trip(0, 1, 0), 3);
        due.is("the shortest of three", y.trip(0, 10, 1), 1);
    }

    private static void promise25Goer() {
        EveryMapWrong x = new EveryMapWrong();
        int[] bad = {-1, 6, 9, 17, 56, 60, 99, 100, Integer.MIN_VALUE, Integer.MAX_VALUE};
        for (int two : bad) {
            due.is("goer(" + two + ")", x.goer(two), -2);
        }
        int[] twos = {0, 5, 50, 55, 23, 23};
        for (int g = 0; g < 6; g++) {
            due.is("goer(" + twos[g] + ")", x.goer(twos[g]), g);
        }
        due.is("a seventh goer", x.goer(1), -4);
        due.is("a seventh goer who is bad", x.goer(60), -2);
        due.is("count(3)", x.count(3), 6);
    }

    private static void promise26Harm() {
        EveryMapWrong x = fourStreets();
        due.is("harm without goers", x.harm(5, 2), 0);
        x.goer(3);
        due.is("a slip that does no harm", x.harm(5, 0), 0);
        due.is("a slip that does some", x.harm(5, 1), 2);
        due.is("a slip by which one never comes", x.harm(5, 2), 99);
        x.goer(12);
        x.goer(45);
        x.goer(11);
        due.is("two goers, a", x.harm(5, 0), 99);
        due.is("two goers, b", x.harm(5, 1), 2);
        due.is("two goers, c", x.harm(5, 2), 198);
        due.is("no such choice", x.harm(5, 3), -5);
        due.is("no such choice", x.harm(5, -1), -5);
        due.is("no such town", x.harm(8, 0), -2);
        due.is("no such town", x.harm(-1, 9), -2);
        Tape.law(x, "may 0;harm far*11 - 5;price 1;");
        due.is("harm is bounded", x.harm(5, 1), 17);
        due.is("harm is bounded", x.harm(5, 2), 999 + 999);
        due.is("harm is bounded for each goer", x.harm(5, 0), 999);
        Tape.law(x, "may 1;harm far + a + b*10 + c*100 + worlds*1000;price 1;");
        due.is("the law sees the town; who has no way has no harm", x.harm(5, 1), 103 + 101 + 101);
        due.is("the law sees the town", x.harm(7, 1), 111 + 3 + 111 + 5 + 111);
    }

    private static void promise27Put() {
        EveryMapWrong x = fourStreets();
        due.is("put without goers", x.put(0, 0), 0);
        due.is("put without goers", x.put(0, 1), 0);
        x.goer(12);
        x.goer(3);
        due.is("put(5, 0)", x.put(5, 0), 1);
        due.is("put(5, 1)", x.put(5, 1), 2);
        due.is("put(6, 0)", x.put(6, 0), 0);
        due.is("put(6, 1)", x.put(6, 1), 0);
        due.is("put(5, 2)", x.put(5, 2), -2);
        due.is("put(5, -1)", x.put(5, -1), -2);
        due.is("put(8, 0)", x.put(8, 0), -2);
        due.is("put(-1, 0)", x.put(-1, 0), -2);
        x.goer(30);
        // By a slip in a the way 3-2-0 is known, by one in b one tries 2-1 first (nothing), by one in c none is.
        due.is("put with three", x.put(5, 0), 1);
        due.is("put with three", x.put(5, 1), 2);
    }

    private static void promise28Trick() {
        EveryMapWrong x = fourStreets();
        due.is("no such goer", x.trick(5, 0, 0), -5);
        x.goer(3);
        x.goer(12);
        x.goer(45);
        due.is("trick(5, 0, 0)", x.trick(5, 0, 0), 2);
        due.is("trick(5, 0, 1)", x.trick(5, 0, 1), 99);
        due.is("trick(5, 1, 0), the first of two", x.trick(5, 1, 0), 0);
        due.is("trick(5, 1, 1)", x.trick(5, 1, 1), 99);
        due.is("trick(7, 0, 0)", x.trick(7, 0, 0), 0);
        due.is("trick(7, 0, 1)", x.trick(7, 0, 1), 3);
        due.is("trick(5, 2, 0) of one without a way", x.trick(5, 2, 0), 0);
        due.is("trick(5, 2, 1) of one without a way", x.trick(5, 2, 1), 0);
        EveryMapWrong y = new EveryMapWrong();
        y.town(3);
        y.street(0, 1, 2, 1);
        y.street(0, 1, 1, 2);
        y.street(0, 1, -1, 9);
        y.goer(1);
        due.is("the choice behind the first", y.trick(2, 0, 0), 1);
        due.is("the choice behind the first", y.trick(2, 0, 1), 7);
        due.is("the last choice", y.trick(4, 0, 0), 2);
        due.is("the last choice", y.trick(4, 0, 1), 8);
        due.is("no such goer", x.trick(5, 3, 0), -5);
        due.is("no such goer", x.trick(5, -1, 0), -5);
        due.is("no such town", x.trick(8, 3, 0), -2);
        due.is("no such town", x.trick(-1, 0, 0), -2);
        due.is("no such what", x.trick(5, 3, 2), -2);
        due.is("no such what", x.trick(5, 0, -1), -2);
    }

    public static void main(String[] args) {
        promise19Street();
        promise20Way();
        promise21Safe();
        promise22Soon();
        promise23Step();
        promise24Trip();
        promise25Goer();
        promise26Harm();
        promise27Put();
        promise28Trick();
        due.end();
    }
}
