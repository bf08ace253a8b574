/** Promises 33 to 43: maps from maps, sheets over one another, years, what to buy, lots, images. */
public final class DrawingTest {
    private static final Due due = new Due("DrawingTest");

    private static EveryMapWrong town(int n, int... says) {
        EveryMapWrong x = new EveryMapWrong();
        x.town(n);
        for (int s : says) {
            x.map(0, s, 0, 0);
        }
        return x;
    }

    private static void promise33From() {
        EveryMapWrong x = town(3, 0, 1, 3, 2, 7, 0);
        int[] near = {10, 37, 26, 37, 4, 10};
        for (int m = 0; m < near.length; m++) {
            due.is("from(" + m + ")", x.from(m), near[m]);
        }
        due.is("from(6)", x.from(6), -5);
        due.is("from(-1)", x.from(-1), -5);
        due.is("from(0) of none", town(3).from(0), -5);
    }

    private static void draws(EveryMapWrong x, int tree, int... origins) {
        for (int m = 0; m < origins.length; m++) {
            due.is("drawnFrom(" + m + ")", x.drawnFrom(m), origins[m]);
        }
        due.is("tree()", x.tree(), tree);
        due.is("drawnFrom(" + origins.length + ")", x.drawnFrom(origins.length), -5);
        due.is("drawnFrom(-1)", x.drawnFrom(-1), -5);
    }

    private static void promise34Tree() {
        due.is("tree without maps", town(3).tree(), 0);
        due.is("tree of one", town(3, 5).tree(), 0);
        due.is("tree of two", town(9, 0, 511).tree(), 9);
        due.is("tree of like ones", town(3, 5, 5, 5).tree(), 0);
        due.is("tree in a row", town(4, 0, 7, 1, 3, 15).tree(), 4);
        due.is("tree of eight", town(9, 0, 3, 12, 48, 192, 256, 7, 511).tree(), 1 + 2 + 1 + 2 + 2 + 2 + 6);
    }

    private static void promise35DrawnFrom() {
        draws(town(3), 0);
        draws(town(3, 4), 0, -1);
        // 2 is drawn first; 1 from it, then 3, which is as near to 1 as to 0.
        draws(town(3, 0, 3, 1, 2), 3, -1, 2, 0, 0);
        draws(town(4, 0, 7, 1, 3, 15), 4, -1, 3, 0, 2, 1);
        draws(town(3, 6, 6, 6), 0, -1, 0, 0);
        draws(town(4, 0, 3, 5, 6), 6, -1, 0, 0, 0);
        // Whoever was drawn later may be nearer: 3 hangs on 2, 2 on 1.
        draws(town(6, 0, 48, 51, 63), 6, -1, 0, 1, 2);
    }

    private static void promise36Over() {
        EveryMapWrong x = new EveryMapWrong();
        x.town(4);
        x.map(0, 5, 1, 0);
        x.map(3, 10, 12, 0);
        x.map(3, 1, 6, 0);
        x.map(1, 4, 1, 0);
        int[][] bits = {{0, 12, 4, 1}, {12, 0, 0, 12}, {4, 0, 0, 4}, {1, 12, 4, 0}};
        for (int a = 0; a < 4; a++) {
            for (int b = 0; b < 4; b++) {
                due.is("over(" + a + ", " + b + ", 0)", x.over(a, b, 0), bits[a][b]);
                due.is("over(" + a + ", " + b + ", 1)", x.over(a, b, 1), Integer.bitCount(bits[a][b]));
            }
        }
        due.is("over(4, 0, 0)", x.over(4, 0, 0), -5);
        due.is("over(0, 4, 2)", x.over(0, 4, 2), -5);
        due.is("over(-1, 0, 0)", x.over(-1, 0, 0), -5);
        due.is("over(0, -1, 0)", x.over(0, -1, 0), -5);
        due.is("over(0, 0, 2)", x.over(0, 0, 2), -7);
        due.is("over(0, 0, -1)", x.over(0, 0, -1), -7);
    }

    private static void promise37Join() {
        EveryMapWrong y = new EveryMapWrong();
        y.map(3, 0, 63, 0);
        due.is("join of the first map", y.join(), 7);
        EveryMapWrong x = new EveryMapWrong();
        x.town(4);
        due.is("join without parts", x.join(), 16);
        x.map(2, 0, 0, 0);
        x.map(5, 0, 0, 0);
        due.is("join without parts", x.join(), 16);
        x.map(3, 0, 3, 0);
        due.is("join of one part", x.join(), 12);
        x.map(3, 0, 12, 0);
        due.is("join of two parts", x.join(), 9);
        x.map(3, 15, 15, 0);
        due.is("join of three parts", x.join(), 0);
        x.drop();
        x.look(0, 0);
        due.is("join after a look", x.join(), 6);
        Tape.law(x, "may a;harm 1;price 1;");
        due.is("join without worlds", x.join(), 0);
    }

    private static void promise38Years() {
        EveryMapWrong x = new EveryMapWrong();
        x.town(4);
        x.map(3, 15, 1, 0);
        due.is("years by no other maps, least", x.years(0, 0), 0);
        due.is("years by no other maps, most", x.years(0, 1), 3);
        x.map(2, 0, 0, 0);
        due.is("years of a part: all count, least", x.years(0, 0), 2);
        due.is("years of a part, most", x.years(0, 1), 3);
        due.is("years of a map with what a part leaves, least", x.years(1, 0), 0);
        due.is("years of a map with what a part leaves, most", x.years(1, 1), 3);
        x.look(3, 1);
        due.is("years after a look, least", x.years(0, 0), 2);
        due.is("years after a look, most", x.years(0, 1), 2);
        x.look(2, 1);
        due.is("years, there are none", x.years(0, 0), -1);
        due.is("years, there are none", x.years(0, 1), -1);
        due.is("years by the part, most", x.years(1, 1), 3);
        due.is("years by the part, least", x.years(1, 0), 1);
        EveryMapWrong y = town(3, 6, 6);
        y.look(1, 0);
        due.is("years of a map with one slip, most", y.years(0, 1), 0);
        due.is("years(0, 2)", x.years(0, 2), -7);
        due.is("years(0, -1)", x.years(0, -1), -7);
        due.is("years(2, 0)", x.years(2, 0), -5);
        due.is("years(-1, 2)", x.years(-1, 2), -5);
    }

    private static void promise39Buy() {
        due.is("buy without maps", town(3).buy(9999, 0), 0);
        due.is("buy without maps", town(3).buy(0, 1), 8);
        // Map 0 leaves 3 worlds of 8, map 1 four, both two; map 2 is like map 0.
        EveryMapWrong x = new EveryMapWrong();
        x.town(3);
        x.map(0, 6, 0, 0);
        x.map(2, 0, 0, 0);
        x.map(0, 6, 0, 0);
        x.price(0, 5);
        x.price(1, 3);
        x.price(2, 4);
        int[][] rows = {{0, 0, 8}, {2, 0, 8}, {3, 2, 4}, {4, 4, 3}, {5, 4, 3}, {6, 4, 3}, {7, 6, 2}, {8, 6, 2}, {9999, 6, 2}};
        for (int[] row : rows) {
            due.is("buy(" + row[0] + ", 0)", x.buy(row[0], 0), row[1]);
            due.is("buy(" + row[0] + ", 1)", x.buy(row[0], 1), row[2]);
        }
        x.price(0, 4);
        due.is("of like prices the least", x.buy(4, 0), 1);
        due.is("of like prices the least", x.buy(9, 0), 3);
        x.price(0, 0);
        x.price(1, 0);
        x.price(2, 0);
        due.is("for nothing", x.buy(0, 0), 3);
        due.is("for nothing", x.buy(0, 1), 2);
        due.is("all maps together", town(3, 3, 5, 6).buy(3, 0), 7);
        due.is("buy(-1, 0)", x.buy(-1, 0), -2);
        due.is("buy(10000, 0)", x.buy(10000, 0), -2);
        due.is("buy(0, 2)", x.buy(0, 2), -2);
        due.is("buy(0, -1)", x.buy(0, -1), -2);
        x.map(5, 0, 0, 0);
        x.price(3, 99);
        due.is("no world left is fewest", x.buy(99, 0), 8);
        due.is("no world left is fewest", x.buy(99, 1), 0);
        due.is("it costs too much", x.buy(98, 1), 2);
    }

    private static void promise40Worth() {
        EveryMapWrong x = new EveryMapWrong();
        x.town(3);
        due.is("worth of no map", x.worth(0), -5);
        x.map(0, 6, 0, 0);
        due.is("worth by the first law", x.worth(0), 3 + 5);
        x.map(2, 0, 0, 0);
        due.is("worth(0) beside another", x.worth(0), 3 + 2);
        due.is("worth(1) beside another", x.worth(1), 3 + 1);
        due.is("worth(2)", x.worth(2), -5);
        due.is("worth(-1)", x.worth(-1), -5);
        Tape.law(x, "may 1;harm 1;price worlds*1000 + 900 + a + b*10 + c*20 + far - 1000;");
        due.is("worth is bounded", x.worth(0), 999);
        Tape.law(x, "may 1;harm 1;price 900 + a + b*10 + c*20 + far*5;");
        due.is("worth sees what the map says", x.worth(0), 930);
        due.is("worth sees what the map says", x.worth(1), 900);
        Tape.law(x, "may 1;harm 1;price -1;");
        due.is("worth is not below 0", x.worth(0), 0);
        Tape.law(x, "may 0;harm 1;price worlds;");
        due.is("worth without worlds", x.worth(0), 0);
    }

    private static void promise41Drawn() {
        EveryMapWrong x = new EveryMapWrong();
        // The first lot of seed 0 is 48271, the second one 182605794.
        due.is("drawn(0, 0)", x.drawn(0, 0), 48271 % 64);
        due.is("drawn(0, 2)", x.drawn(0, 2), 182605794 % 6);
        due.is("drawn(0, 1)", x.drawn(0, 1), 15 ^ 1);
        // The first lot of seed 99999 is 4827100000 less 2 times 2147483647.
        due.is("drawn(99999, 0)", x.drawn(99999, 0), 532132706 % 64);
        long second = 532132706L * 48271L % 2147483647L;
        due.is("drawn(99999, 2)", x.drawn(99999, 2), second % 6);
        due.is("drawn(99999, 1)", x.drawn(99999, 1), 532132706 % 64 ^ 1 << second % 6);
        due.is("drawn(-1, 0)", x.drawn(-1, 0), -2);
        due.is("drawn(100000, 0)", x.drawn(100000, 0), -2);
        due.is("drawn(0, 3)", x.drawn(0, 3), -2);
        due.is("drawn(0, -1)", x.drawn(0, -1), -2);
        EveryMapWrong y = town(3, 6);
        due.is("drawn(0, 0) of 2 4 7", y.drawn(0, 0), 4);
        due.is("drawn(1, 0) of 2 4 7", y.drawn(1, 0), 7);
        due.is("drawn(2, 0) of 2 4 7", y.drawn(2, 0), 2);
        y.look(0, 1);
        y.look(1, 0);
        due.is("drawn(0, 0) without worlds", y.drawn(0, 0), -3);
        due.is("drawn(0, 2) without worlds", y.drawn(0, 2), -3);
        due.is("drawn(0, 3) without worlds", y.drawn(0, 3), -2);
    }

    private static void promise42Image() {
        EveryMapWrong x = town(3);
        due.is("image()", x.image(), 0);
        x.map(0, 0, 0, 0);
        x.map(0, 0, 0, 0);
        due.is("image() of two maps", x.image(), 2);
        x.price(0, 9);
        x.look(0, 1);
        due.is("a later image takes its place", x.image(), 2);
        x.price(0, 8);
        x.look(0, 0);
        x.back();
        due.is("price as in the later one", x.told(0, 4), 9);
        due.is("seen as in the later one", x.count(8), 1);
    }

    private static void promise43Back() {
        EveryMapWrong x = town(3, 1, 2);
        due.is("back() without an image", x.back(), -3);
        Tape.read(x, "may a;harm 1;price 1;");
        x.price(0, 10);
        x.price(1, 11);
        x.look(0, 1);
        x.look(1, 0);
        x.image();
        x.price(0, 20);
        x.price(1, 21);
        x.map(0, 4, 0, 0);
        x.map(1, 5, 0, 2);
        x.look(0, -1);
        x.look(1, 1);
        x.look(2, 1);
        x.force(1);
        Tape.read(x, "may b;harm 1;price 1;");
        x.feed(97, 1);
        x.street(0, 1, -1, 5);
        x.goer(1);
        x.sheet(0, 0, 4);
        due.is("back()", x.back(), 2);
        due.is("prices", x.told(0, 4), 10);
        due.is("prices", x.told(1, 4), 11);
        due.is("maps that came since", x.told(2, 0), -5);
        due.is("seen", x.count(7), 3);
        due.is("so", x.count(8), 1);
        due.is("the law", x.count(5), 0);
        due.is("texts stay", x.count(4), 3);
        due.is("streets stay", x.count(2), 1);
        due.is("goers stay", x.count(3), 1);
        due.is("the tape stays", x.count(6), 1);
        due.is("sheets stay", x.cell(0, 3, 1), 1);
        x.price(1, 50);
        due.is("the image stays", x.back(), 2);
        due.is("prices again", x.told(1, 4), 11);
        x.force(2);
        x.image();
        x.force(0);
        x.back();
        due.is("the law as in the image", x.count(5), 2);
        x.map(2, 7, 0, 0);
        due.is("a map that comes in place of another", x.told(2, 1), 7);
        due.is("it costs 1", x.told(2, 4), 1);
        x.drop();
        x.drop();
        due.is("back() without the image", x.back(), -3);
        due.is("nothing changes by that", x.count(1), 1);
    }

    public static void main(String[] args) {
        promise33From();
        promise34Tree();
        promise35DrawnFrom();
        promise36Over();
        promise37Join();
        promise38Years();
        promise39Buy();
        promise40Worth();
        promise41Drawn();
        promise42Image();
        promise43Back();
        due.end();
    }
}
