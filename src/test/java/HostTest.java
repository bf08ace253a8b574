/** Promises 44 to 48: sheets, maps by them, what lies at a place. */
public final class HostTest {
    private static final Due due = new Due("HostTest");

    private static void fill(EveryMapWrong x, int s, int... numbers) {
        for (int i = 0; i < numbers.length; i++) {
            due.is("cell(" + s + ", " + i + ", " + numbers[i] + ")", x.cell(s, i, numbers[i]), 1);
        }
    }

    private static void says(EveryMapWrong x, int m, int kind, int says, int mask, int more) {
        int[] row = {kind, says, mask, more};
        for (int what = 0; what < 4; what++) {
            due.is("told(" + m + ", " + what + ")", x.told(m, what), row[what]);
        }
    }

    private static void promise44Sheet() {
        EveryMapWrong x = new EveryMapWrong();
        for (int sort = 0; sort < 3; sort++) {
            due.is("sheet(" + sort + ", " + sort + ", 40)", x.sheet(sort, sort, 40), 1);
            due.is("the last place", x.cell(sort, 39, 1), 1);
            due.is("behind the last place", x.cell(sort, 40, 1), -12);
        }
        due.is("sheet(0, 0, 41)", x.sheet(0, 0, 41), -2);
        due.is("sheet(0, 0, -1)", x.sheet(0, 0, -1), -14);
        due.is("sheet(0, 0, least)", x.sheet(0, 0, Integer.MIN_VALUE), -14);
        due.is("sheet(4, 0, -1)", x.sheet(4, 0, -1), -2);
        due.is("sheet(-1, 0, 1)", x.sheet(-1, 0, 1), -2);
        due.is("sheet(0, 3, -1)", x.sheet(0, 3, -1), -2);
        due.is("sheet(0, -2, 1)", x.sheet(0, -2, 1), -2);
        due.is("a refusal changes nothing", x.cell(0, 39, 1), 1);
        due.is("sheet(3, 2, 0)", x.sheet(3, 2, 0), 1);
        due.is("a row of none is there", x.cell(3, 0, 1), -12);
        due.is("sheet(0, -1, 99)", x.sheet(0, -1, 99), 1);
        due.is("a missing sheet", x.cell(0, 0, 1), -11);
        due.is("sheet(0, -1, -99)", x.sheet(0, -1, -99), 1);
        due.is("sheet(4, -1, 0)", x.sheet(4, -1, 0), -2);
        x.sheet(1, 2, 8);
        fill(x, 1, 2, 3, 4, 5, 2, 6, 7, 8);
        x.sheet(1, 2, 8);
        due.is("a new row", x.mapsBy(1, 2, 0, 2), 2);
        says(x, 0, 0, 0, 0, 0);
        says(x, 1, 0, 0, 0, 0);
    }

    private static void promise45Cell() {
        EveryMapWrong x = new EveryMapWrong();
        due.is("a missing sheet", x.cell(0, 0, 0), -11);
        due.is("a missing sheet, a place outside", x.cell(0, -1, 0), -11);
        due.is("no sheet", x.cell(4, 0, 0), -2);
        due.is("no sheet", x.cell(-1, 0, 0), -2);
        for (int sort = 0; sort < 3; sort++) {
            x.sheet(sort, sort, 4);
            due.is("place -1", x.cell(sort, -1, 0), -12);
            due.is("place 4", x.cell(sort, 4, 0), -12);
            due.is("place most", x.cell(sort, Integer.MAX_VALUE, 0), -12);
            due.is("place least", x.cell(sort, Integer.MIN_VALUE, 0), -12);
        }
        fill(x, 0, 256 + 2, -256 + 33, 512 + 12, 65536 + 7);
        due.is("lowest 8 bits", x.mapsBy(0, 0, 0, 1), 1);
        says(x, 0, 2, 33, 12, 7);
        fill(x, 1, 65536 + 3, -65536 + 34, 131072 + 13, 65536);
        due.is("lowest 16 bits", x.mapsBy(1, 1, 0, 1), 1);
        says(x, 1, 3, 34, 13, 0);
        fill(x, 1, 256, 0, 0, 0);
        due.is("bits above 8 count", x.mapsBy(1, 1, 0, 1), 0);
        fill(x, 2, 65536, 0, 0, 0);
        due.is("bits above 16 count", x.mapsBy(2, 2, 0, 1), 0);
        fill(x, 2, 4, 35, 14, 6);
        due.is("all bits", x.mapsBy(2, 2, 0, 1), 1);
        says(x, 2, 4, 35, 14, 6);

        EveryMapWrong y = new EveryMapWrong();
        y.town(9);
        y.sheet(0, 0, 4);
        fill(y, 0, 0, 200, 0, 0);
        due.is("a byte is below 0 from 128 on", y.mapsBy(0, 0, 0, 1), 0);
        fill(y, 0, 0, 127, 0, 0);
        due.is("a byte is 127 at most", y.mapsBy(0, 0, 0, 1), 1);
    }

    private static void promise46Copy() {
        EveryMapWrong x = new EveryMapWrong();
        due.is("missing", x.copy(0, 0, 1, 0, 0), -11);
        x.sheet(0, 2, 8);
        due.is("the other one is missing", x.copy(0, 0, 1, 0, 9), -11);
        due.is("the one is missing", x.copy(1, 0, 0, 0, 9), -11);
        x.sheet(1, 1, 8);
        due.is("unlike sorts", x.copy(0, 0, 1, 0, 9), -13);
        due.is("unlike sorts", x.copy(1, 0, 0, -1, 1), -13);
        x.sheet(1, 2, 6);
        int most = Integer.MAX_VALUE;
        int[][] outside = {{0, 3, 4}, {3, 0, 6}, {-1, 0, 1}, {0, -1, 1}, {0, 0, -1}, {0, 0, 9}, {9, 0, 0}, {0, 7, 0},
            {most, 0, 1}, {0, most, 1}, {0, 0, most}, {1, 1, most}, {most, most, most}, {0, 0, Integer.MIN_VALUE}};
        for (int[] o : outside) {
            due.is("copy(0, " + o[0] + ", 1, " + o[1] + ", " + o[2] + ")", x.copy(0, o[0], 1, o[1], o[2]), -12);
        }
        due.is("none at the ends", x.copy(0, 8, 1, 6, 0), 0);
        due.is("copy(4, ..)", x.copy(4, 0, 0, 0, 0), -2);
        due.is("copy(.., 4, ..)", x.copy(0, 0, 4, 0, 0), -2);
        due.is("copy(-1, ..)", x.copy(-1, 0, 2, 0, 0), -2);
        due.is("copy(.., -1, ..)", x.copy(2, 0, -1, 0, 0), -2);

        fill(x, 0, 0, 0, 2, 33, 12, 7, 0, 0);
        due.is("copy to another one", x.copy(0, 2, 1, 1, 4), 4);
        due.is("a map by the copy", x.mapsBy(1, 2, 1, 1), 1);
        says(x, 0, 2, 33, 12, 7);
        fill(x, 0, 1, 2, 3, 4, 5, 6, 7, 8);
        due.is("copy to its own, further on", x.copy(0, 0, 0, 1, 5), 5);
        due.is("a map by 1 2 3 4", x.mapsBy(0, 2, 2, 1), 1);
        says(x, 1, 2, 3, 4, 5);
        fill(x, 0, 0, 2, 3, 4, 5, 6, 7, 8);
        due.is("copy to its own, further back", x.copy(0, 1, 0, 0, 5), 5);
        due.is("a map by 3 4 5 6", x.mapsBy(0, 2, 1, 1), 1);
        says(x, 2, 3, 4, 5, 6);
        due.is("the whole row", x.copy(0, 0, 0, 0, 8), 8);
    }

    private static void promise47MapsBy() {
        EveryMapWrong x = new EveryMapWrong();
        due.is("missing", x.mapsBy(0, 0, 0, 0), -11);
        x.sheet(0, 2, 40);
        due.is("of another sort", x.mapsBy(0, 1, 99, 1), -13);
        due.is("no sheet", x.mapsBy(4, 2, 0, 1), -2);
        due.is("no sheet", x.mapsBy(-1, 2, 0, 1), -2);
        due.is("no sort", x.mapsBy(0, 3, 0, 1), -2);
        due.is("no sort", x.mapsBy(1, -1, 0, 1), -2);
        due.is("n 9", x.mapsBy(1, 2, 0, 9), -2);
        due.is("n -1", x.mapsBy(0, 0, 0, -1), -2);
        due.is("n 0", x.mapsBy(0, 2, 0, 0), 0);
        due.is("at -1", x.mapsBy(0, 2, -1, 1), -12);
        due.is("at -4", x.mapsBy(0, 2, -4, 2), -12);
        due.is("at 37", x.mapsBy(0, 2, 37, 1), -12);
        due.is("at most", x.mapsBy(0, 2, Integer.MAX_VALUE, 8), -12);
        due.is("at least", x.mapsBy(0, 2, Integer.MIN_VALUE, 8), -12);
        due.is("count(1)", x.count(1), 0);
        fill(x, 0, 0, 1, 2, 3, 1, 0, 0, 0, 1, 4, 0, 9, 6, 0, 0, 0, 4, 5, 6, 7);
        due.is("five, of which two are none", x.mapsBy(0, 2, 0, 5), 3);
        says(x, 0, 0, 1, 2, 3);
        says(x, 1, 1, 0, 0, 0);
        says(x, 2, 4, 5, 6, 7);
        x.cell(0, 36, 5);
        due.is("the last four and one more", x.mapsBy(0, 2, 36, 2), -12);
        due.is("what stood ahead came", x.count(1), 4);
        says(x, 3, 5, 0, 0, 0);
        due.is("no more than there can be", x.mapsBy(0, 2, 20, 5), 4);
        due.is("none any more", x.mapsBy(0, 2, 20, 5), 0);
        due.is("none any more, and outside", x.mapsBy(0, 2, 36, 5), -12);
        due.is("count(1)", x.count(1), 8);
    }

    private static void promise48Taken() {
        EveryMapWrong x = new EveryMapWrong();
        for (int kind = 0; kind < 7; kind++) {
            due.is("nothing at 0", x.taken(0, kind), -11);
            due.is("nothing at 19", x.taken(19, kind), -11);
            due.is("outside", x.taken(-1, kind), -12);
            due.is("outside", x.taken(20, kind), -12);
        }
        for (int kind = 0; kind < 6; kind++) {
            x.map(kind, 0, 0, 0);
        }
        x.street(0, 1, -1, 77);
        x.street(0, 1, -1, 1);
        due.is("no kind", x.taken(-1, 7), -2);
        due.is("no kind", x.taken(0, -1), -2);
        for (int is = 0; is < 6; is++) {
            for (int as = 0; as < 6; as++) {
                boolean fits = as == is || as == 0 || is == 3 && as == 2;
                due.is("taken(" + (12 + is) + ", " + as + ")", x.taken(12 + is, as), fits ? is : -13);
            }
            due.is("a map taken for a street", x.taken(12 + is, 6), -13);
            due.is("a street taken for a map", x.taken(is % 2, is), -13);
        }
        due.is("taken(0, 6)", x.taken(0, 6), 77);
        due.is("taken(1, 6)", x.taken(1, 6), 1);
        due.is("taken(2, 6)", x.taken(2, 6), -11);
        due.is("taken(18, 6)", x.taken(18, 6), -11);
    }

    public static void main(String[] args) {
        promise44Sheet();
        promise45Cell();
        promise46Copy();
        promise47MapsBy();
        promise48Taken();
        due.end();
    }
}
