/** Promises 8 to 13: maps, what they tell, what was seen. */
public final class MapsTest {
    private static final Due due = new Due("MapsTest");

    private static void promise08Map() {
        EveryMapWrong x = new EveryMapWrong();
        due.is("a copy of no map", x.map(1, 0, 0, 0), -2);
        due.is("the first map", x.map(0, 63, 63, 9), 0);
        due.is("a copy of itself", x.map(1, 0, 0, 1), -2);
        due.is("a copy of map 0", x.map(1, 62, 0, 0), 1);
        due.is("kind -1", x.map(-1, 0, 0, 0), -2);
        due.is("kind 6", x.map(6, 0, 0, 0), -2);
        due.is("says -1", x.map(0, -1, 0, 0), -2);
        due.is("says 64", x.map(0, 64, 0, 0), -2);
        due.is("mask -1", x.map(0, 0, -1, 0), -2);
        due.is("mask 64", x.map(3, 0, 64, 0), -2);
        due.is("more -1", x.map(0, 0, 0, -1), -2);
        due.is("more 10", x.map(4, 0, 0, 10), -2);
        for (int m = 2; m < 8; m++) {
            due.is("map " + m, x.map(m - 2, 0, 0, 0), m);
        }
        due.is("a ninth map", x.map(0, 0, 0, 0), -4);
        due.is("a ninth map that is bad", x.map(0, 64, 0, 0), -2);
        due.is("a ninth map that is a copy of none", x.map(1, 0, 0, 8), -2);
        due.is("count(1)", x.count(1), 8);
    }

    private static void promise09Drop() {
        EveryMapWrong x = new EveryMapWrong();
        x.map(0, 1, 0, 0);
        x.map(0, 2, 0, 0);
        x.map(0, 4, 0, 0);
        due.is("drop()", x.drop(), 2);
        due.is("told(2, 1) of a map that was dropped", x.told(2, 1), -5);
        due.is("taken(14, 0)", x.taken(14, 0), -11);
        due.is("a new map has the number", x.map(2, 8, 0, 0), 2);
        due.is("it says its own", x.told(2, 1), 8);
        due.is("worlds(4) are by the new map", x.worlds(4), 7);
        x.image();
        x.map(0, 5, 0, 0);
        x.drop();
        due.is("an image without the dropped map stays", x.back(), 3);
        x.drop();
        due.is("an image with the dropped map goes", x.back(), -3);
        x.map(0, 5, 0, 0);
        due.is("it does not come again", x.back(), -3);
        due.is("drop()", x.drop(), 2);
        due.is("drop()", x.drop(), 1);
        due.is("drop()", x.drop(), 0);
        due.is("drop() of none", x.drop(), -3);
        x.image();
        due.is("drop() of none", x.drop(), -3);
        due.is("an image of no maps stays", x.back(), 0);
    }

    private static void promise10Price() {
        EveryMapWrong x = new EveryMapWrong();
        due.is("price of no map", x.price(0, 0), -1);
        due.is("price of no map, and bad", x.price(0, 100), -1);
        x.map(0, 0, 0, 0);
        x.map(0, 0, 0, 0);
        due.is("price at first", x.price(0, 99), 1);
        due.is("price 100", x.price(0, 100), -2);
        due.is("price -1", x.price(0, -1), -2);
        due.is("price as it was", x.price(0, 0), 99);
        due.is("price as it was", x.price(0, 7), 0);
        due.is("of another map", x.told(1, 4), 1);
        due.is("map -1", x.price(-1, 0), -1);
        due.is("map 2", x.price(2, 0), -1);
        x.drop();
        x.price(0, 5);
        x.map(0, 0, 0, 0);
        due.is("a new map costs 1", x.price(1, 3), 1);
    }

    private static void promise11Told() {
        EveryMapWrong x = new EveryMapWrong();
        x.map(4, 33, 12, 9);
        x.map(1, 32, 63, 0);
        x.price(0, 42);
        int[][] rows = {{4, 33, 12, 9, 42}, {1, 32, 63, 0, 1}};
        for (int m = 0; m < 2; m++) {
            for (int what = 0; what < 5; what++) {
                due.is("told(" + m + ", " + what + ")", x.told(m, what), rows[m][what]);
            }
        }
        due.is("told(0, 5)", x.told(0, 5), -7);
        due.is("told(0, -1)", x.told(0, -1), -7);
        due.is("told(2, 0)", x.told(2, 0), -5);
        due.is("told(-1, 0)", x.told(-1, 0), -5);
        due.is("told(2, 9)", x.told(2, 9), -5);
    }

    /** Held against all towns: those told agree, the others don't. */
    private static void agree(EveryMapWrong x, int m, int... towns) {
        for (int t = 0; t < 1 << x.count(0); t++) {
            int due1 = 0;
            for (int town : towns) {
                due1 |= town == t ? 1 : 0;
            }
            due.is("slips(" + m + ", " + t + ", 1)", x.slips(m, t, 1), due1);
        }
    }

    private static void promise12Slips() {
        EveryMapWrong x = new EveryMapWrong();
        x.town(4);
        x.map(0, 5, 3, 0);
        x.map(1, 4, 3, 0);
        x.map(1, 7, 3, 0);
        x.map(1, 10, 3, 0);
        x.map(1, 5, 3, 0);
        x.map(1, 12, 3, 1);
        x.map(2, 9, 1, 0);
        x.map(3, 15, 6, 0);
        agree(x, 0, 4, 7, 1, 13);
        agree(x, 1, 4, 7, 1, 13);
        agree(x, 2, 4, 7, 1, 13);
        agree(x, 3);
        agree(x, 4);
        agree(x, 5, 4, 7, 1, 13);
        agree(x, 6, 9, 8, 11, 13, 1);
        agree(x, 7, 2, 3, 4, 5, 6, 7, 10, 11, 12, 13, 14, 15);
        due.is("slips of a map", x.slips(0, 15, 0), 10);
        due.is("slips of a copy", x.slips(1, 15, 0), 11);
        due.is("slips of a mended map", x.slips(6, 15, 0), 6);
        due.is("slips of a part", x.slips(7, 0, 0), 6);
        due.is("slips of a part", x.slips(7, 13, 0), 2);
        due.is("slips(8, ..)", x.slips(8, 0, 0), -5);
        due.is("slips(-1, ..)", x.slips(-1, 99, 9), -5);
        due.is("slips(0, 16, 0)", x.slips(0, 16, 0), -7);
        due.is("slips(0, -1, 1)", x.slips(0, -1, 1), -7);
        due.is("slips(0, 0, 2)", x.slips(0, 0, 2), -7);
        due.is("slips(0, 0, -1)", x.slips(0, 0, -1), -7);

        EveryMapWrong y = new EveryMapWrong();
        y.town(3);
        y.map(4, 2, 0, 0);
        y.map(4, 2, 0, 1);
        y.map(4, 2, 0, 9);
        y.map(5, 0, 0, 0);
        y.map(5, 1, 0, 0);
        y.map(5, 2, 0, 0);
        y.map(1, 6, 0, 5);
        y.map(3, 5, 0, 0);
        agree(y, 0, 2, 3, 0, 6);
        agree(y, 1, 0, 1, 2, 3, 4, 6, 7);
        agree(y, 2, 0, 1, 2, 3, 4, 5, 6, 7);
        agree(y, 3);
        agree(y, 4, 2);
        agree(y, 5, 1, 4);
        agree(y, 6, 1, 4);
        agree(y, 7, 0, 1, 2, 3, 4, 5, 6, 7);
        due.is("slips of a part with no mask", y.slips(7, 2, 0), 0);
        due.is("slips of a swapped map", y.slips(5, 1, 0), 3);
        due.is("slips of an old map", y.slips(0, 5, 0), 7);

        EveryMapWrong z = new EveryMapWrong();
        z.town(3);
        z.map(2, 0, 0, 0);
        z.drop();
        z.map(5, 1, 0, 0);
        agree(z, 0, 2);
    }

    private static void promise13Look() {
        EveryMapWrong x = new EveryMapWrong();
        due.is("look(2, 1)", x.look(2, 1), -1);
        due.is("look(2, 0)", x.look(2, 0), 1);
        due.is("look(2, -1)", x.look(2, -1), 0);
        due.is("look(2, -1)", x.look(2, -1), -1);
        due.is("look(5, 1)", x.look(5, 1), -1);
        due.is("look(5, -1)", x.look(5, -1), 1);
        due.is("count(7)", x.count(7), 0);
        due.is("count(8)", x.count(8), 0);
        due.is("look(0, 1)", x.look(0, 1), -1);
        due.is("look(1, 0)", x.look(1, 0), -1);
        due.is("count(7)", x.count(7), 3);
        due.is("count(8)", x.count(8), 1);
        due.is("worlds(0)", x.worlds(0), 16);
        due.is("look(6, 1)", x.look(6, 1), -5);
        due.is("look(-1, 1)", x.look(-1, 1), -5);
        due.is("look(6, 2)", x.look(6, 2), -5);
        due.is("look(0, 2)", x.look(0, 2), -7);
        due.is("look(0, -2)", x.look(0, -2), -7);
        due.is("look(0, 1) after refusals", x.look(0, 1), 1);
    }

    public static void main(String[] args) {
        promise08Map();
        promise09Drop();
        promise10Price();
        promise11Told();
        promise12Slips();
        promise13Look();
        due.end();
    }
}
