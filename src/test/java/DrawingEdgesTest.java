/** Each sentence on MAPS from MAPS, years, what to buy, lots and images that names a boundary (promises 33 to 43). */
public final class DrawingEdgesTest {
    private static final Due due = new Due("DrawingEdgesTest");
    private static final String[] EIGHT_OLD = WorldsEdgesTest.EIGHT_OLD;
    private static final String[] NO_MAPS = {"-1", "2", "8", "MIN", "MAX", "31", "32"};

    private static Run run(String sentence, String... first) {
        return Run.of(due, sentence, first);
    }

    private static Run says(String sentence, int n, int... says) {
        Run run = run(sentence, "town " + n);
        for (int s : says) {
            run.does("map 0 " + s + " 0 0");
        }
        return run;
    }

    // ---- promise 33

    private static void fromTakesMaps() {
        for (String m : NO_MAPS) {
            says("33: -5: no such MAP", 3, 0, 1).leaves("from " + m, -5);
        }
        run("33: -5 without MAPS").leaves("from 0", -5);
        says("33: of one MAP there are no others", 3, 5).leaves("from 0", 0);
        says("33: just one CHOICE: not none, not two, not three", 3, 0, 0, 3, 7, 1, 2, 4, 5).leaves("from 0", 112)
            .leaves("from 1", 112).leaves("from 2", 8 + 16 + 32).leaves("from 3", 4 + 128).leaves("from 7", 8 + 16 + 64);
        says("33: the last CHOICE", 9, 0, 256).leaves("from 0", 2).leaves("from 1", 1);
        run("33: what they SAY counts, of a PART too", "town 3", "map 3 0 0 0", "map 3 1 6 0", "map 1 3 0 1")
            .leaves("from 0", 2).leaves("from 1", 5).leaves("from 2", 2);
    }

    // ---- promises 34, 35

    private static void treeWithoutMaps() {
        run("34: 0 without MAPS").leaves("tree", 0);
        says("34: one MAP", 9, 511).leaves("tree", 0).leaves("drawnFrom 0", -1);
        says("34: two, as unlike as can be", 9, 0, 511).leaves("tree", 9).leaves("drawnFrom 0", -1).leaves("drawnFrom 1", 0);
        says("34: like ones", 3, 5, 5, 5, 5, 5, 5, 5, 5).leaves("tree", 0).leaves("drawnFrom 7", 0);
        says("34: what they SAY of all CHOICES counts", 3, 0, 1, 3, 7, 6, 4).leaves("tree", 5).leaves("drawnFrom 5", 0);
        says("34: eight MAPS", 9, 0, 1, 3, 7, 15, 31, 63, 127).leaves("tree", 7).leaves("drawnFrom 7", 6)
            .leaves("drawnFrom 1", 0).leaves("drawnFrom 8", -5);
        says("34: eight MAPS, the last drawn first", 9, 0, 127, 63, 31, 15, 7, 3, 1).leaves("tree", 7)
            .leaves("drawnFrom 7", 0).leaves("drawnFrom 1", 2).leaves("drawnFrom 2", 3);
    }

    private static void drawnFromTakesMaps() {
        for (String m : NO_MAPS) {
            says("35: -5: no such MAP", 3, 0, 1).leaves("drawnFrom " + m, -5);
        }
        run("35: -5 without MAPS").leaves("drawnFrom 0", -5);
        says("35: -1: MAP 0, wherever it stands", 3, 7, 0, 1).leaves("drawnFrom 0", -1);
        says("Terms: of like ones the least", 3, 0, 2, 1, 3).leaves("drawnFrom 1", 0).leaves("drawnFrom 2", 0)
            .leaves("drawnFrom 3", 1);
        says("Terms: of like ones the least", 3, 0, 3, 3).leaves("drawnFrom 1", 0).leaves("drawnFrom 2", 1)
            .leaves("tree", 2);
        says("Terms: of like ones the least, then from the least", 4, 0, 5, 3, 1).leaves("drawnFrom 3", 0)
            .leaves("drawnFrom 1", 3).leaves("drawnFrom 2", 3);
        // 1 and 2 are both two off; 1 is drawn first, and 2 is as near to 1 as to 0.
        says("Terms: then from the least", 3, 0, 3, 5).leaves("drawnFrom 1", 0).leaves("drawnFrom 2", 0).leaves("tree", 4);
        says("Terms: each time of those left", 6, 0, 48, 51, 63).leaves("drawnFrom 1", 0).leaves("drawnFrom 2", 1)
            .leaves("drawnFrom 3", 2).leaves("tree", 6);
    }

    // ---- promise 36

    private static void overTakesMapsAndWhat() {
        for (String m : NO_MAPS) {
            says("36: -5: MAPS", 3, 0, 1).leaves("over " + m + " 0 0", -5).leaves("over 0 " + m + " 0", -5)
                .leaves("over " + m + " " + m + " 1", -5).leaves("over " + m + " 0 2", -5).leaves("over 1 " + m + " -1", -5);
        }
        for (String what : new String[] {"2", "-1", "MIN", "MAX"}) {
            says("36: -7: what", 3, 0, 1).leaves("over 0 1 " + what, -7).leaves("over 1 1 " + what, -7);
        }
        run("36: -5 without MAPS").leaves("over 0 0 0", -5).leaves("over 0 0 2", -5);
        says("36: a MAP over itself", 9, 0, 511).leaves("over 0 0 0", 0).leaves("over 0 0 1", 0).leaves("over 0 1 0", 511)
            .leaves("over 1 0 1", 9).leaves("over 1 1 0", 0).leaves("over 1 1 1", 0);
        run("36: a PART shows its MASK, others all", "town 4", "map 3 15 0 0", "map 3 0 6 0", "map 3 15 12 0", "map 2 0 0 0",
            "map 4 15 0 0").leaves("over 0 1 0", 0).leaves("over 1 2 0", 4).leaves("over 2 1 1", 1).leaves("over 2 3 0", 12)
            .leaves("over 3 4 0", 15).leaves("over 0 3 0", 0).leaves("over 1 4 0", 6).leaves("over 1 3 0", 0)
            .leaves("over 3 4 1", 4);
    }

    // ---- promise 37

    private static void joinGoesByParts() {
        run("37: without PARTS all that MAY BE", "town 4", "map 2 0 15 0", "map 5 0 15 0").leaves("join", 16)
            .does("look 0 1").leaves("join", 8).does("law may b;harm 1;price 1;").leaves("join", 4)
            .does("look 1 0").leaves("join", 0);
        run("37: by all PARTS, none of the others", "town 3", "map 5 0 0 0", "map 3 0 7 0").leaves("join", 4)
            .does("map 3 7 7 0").leaves("join", 0).leaves("worlds 2", 4);
        run("37: without MAPS", "town 9").leaves("join", 512);
        Run run = run("37: eight PARTS", "town 3");
        for (int says = 0; says < 8; says++) {
            run.does("map 3 " + says + " 3 0").leaves("join", says == 0 ? 6 : says == 1 ? 4 : says == 2 ? 2 : 0);
        }
    }

    // ---- promise 38

    private static void yearsTakesMapsAndWhat() {
        for (String m : NO_MAPS) {
            says("38: -5: no such MAP", 3, 0, 1).leaves("years " + m + " 0", -5).leaves("years " + m + " 2", -5)
                .leaves("years " + m + " -1", -5);
        }
        for (String what : new String[] {"2", "-1", "MIN", "MAX"}) {
            says("38: -7: what", 3, 0, 1).leaves("years 0 " + what, -7);
            run("38: a -1 comes behind -7", "law may 0;harm 1;price 1;", "map 0 0 0 0").leaves("years 0 " + what, -7)
                .leaves("years 1 " + what, -5);
        }
        run("38: -5 without MAPS").leaves("years 0 0", -5);
    }

    private static void yearsAreLessOne() {
        run("38: less 1 (0 at least)", "town 3", "map 0 5 0 0").leaves("years 0 0", 0).leaves("years 0 1", 2);
        run("38: less 1 (0 at least), of none and of one", "town 3", "map 0 5 0 0", "look 0 1", "look 1 0", "look 2 1")
            .leaves("years 0 0", 0).leaves("years 0 1", 0).does("look 0 0").leaves("years 0 0", 0).leaves("years 0 1", 0)
            .does("look 1 1").leaves("years 0 0", 1).leaves("years 0 1", 1);
        run("38: the most there can be", "town 9", "map 0 0 0 0", "map 0 511 0 0").leaves("years 0 0", 7)
            .leaves("years 0 1", 7).does("drop", "map 2 511 0 0").leaves("years 0 0", 7).leaves("years 0 1", 8);
        run("38: all count, of a PART too", "town 3", "map 3 7 0 0", "look 0 0", "look 1 0", "look 2 0")
            .leaves("years 0 0", 2).leaves("years 0 1", 2);
        run("38: -1: there are none", "town 3", "map 0 0 0 0", "map 5 0 0 0").leaves("years 0 0", -1).leaves("years 0 1", -1)
            .leaves("years 1 0", 0).leaves("years 1 1", 0);
        run("38: -1 by THE LAW", "map 0 0 0 0", "law may 0;harm 1;price 1;").leaves("years 0 0", -1).leaves("years 0 1", -1);
        run("38: by all other MAPS, the eighth too", EIGHT_OLD).leaves("years 7 0", 2).leaves("years 7 1", 2)
            .leaves("years 0 0", 2).leaves("years 3 1", 2);
        run("38: a COPY of the MAP is another MAP", "town 3", "map 0 0 0 0", "map 1 1 0 0").leaves("years 0 0", 0)
            .leaves("years 0 1", 0).leaves("years 1 0", 0).leaves("years 1 1", 1);
    }

    // ---- promise 39

    private static void buyTakesCoinAndWhat() {
        for (String coin : new String[] {"-1", "10000", "MIN", "MAX"}) {
            says("39: BAD: coin 0 .. 9999", 3, 0, 1).leaves("buy " + coin + " 0", -2).leaves("buy " + coin + " 2", -2);
        }
        for (String what : new String[] {"2", "-1", "MIN", "MAX"}) {
            says("39: BAD: what", 3, 0, 1).leaves("buy 0 " + what, -2).leaves("buy 9999 " + what, -2);
        }
        run("39: without MAPS", "town 3").leaves("buy 0 0", 0).leaves("buy 0 1", 8).leaves("buy 9999 0", 0)
            .leaves("buy 9999 1", 8);
    }

    private static void buyKeepsToTheCoin() {
        run("39: no more than coin", "town 3", "map 2 0 0 0", "price 0 5").leaves("buy 4 0", 0).leaves("buy 4 1", 8)
            .leaves("buy 5 0", 1).leaves("buy 5 1", 4).leaves("buy 6 0", 1);
        run("39: a MAP for nothing", "town 3", "map 2 0 0 0", "price 0 0").leaves("buy 0 0", 1).leaves("buy 0 1", 4);
        Run eight = run("39: all eight, each at 99", EIGHT_OLD);
        for (int m = 0; m < 8; m++) {
            eight.does("price " + m + " 99");
        }
        eight.leaves("buy 792 0", 255).leaves("buy 792 1", 0).leaves("buy 791 0", 127).leaves("buy 791 1", 1)
            .leaves("buy 9999 0", 255).leaves("buy 98 0", 0).leaves("buy 99 0", 1).leaves("buy 99 1", 7);
        run("39: a PRICE of 1 at first", EIGHT_OLD).leaves("buy 0 0", 0).leaves("buy 1 0", 1).leaves("buy 7 0", 127)
            .leaves("buy 8 0", 255);
        run("39: of like ones the cheapest", "town 3", "map 2 0 0 0", "map 2 0 0 0", "map 2 0 0 0", "price 0 9", "price 1 3",
            "price 2 4").leaves("buy 9999 0", 2).leaves("buy 3 0", 2).leaves("buy 2 0", 0).leaves("buy 4 0", 2);
        run("39: then the least", "town 3", "map 2 0 0 0", "map 2 0 0 0", "map 2 0 0 0", "price 0 9", "price 1 3",
            "price 2 3").leaves("buy 9999 0", 2).does("price 0 3").leaves("buy 9999 0", 1);
        run("39: then the least: not one for nothing that tells nothing", "town 3", "map 4 0 0 9", "map 2 0 0 0", "price 0 0",
            "price 1 0").leaves("buy 9999 0", 2).leaves("buy 0 1", 4);
        run("39: fewest WORLDS go ahead of cheap ones", "town 3", "map 3 0 3 0", "map 2 0 0 0", "price 0 1", "price 1 99")
            .leaves("buy 98 0", 1).leaves("buy 99 0", 2).leaves("buy 100 0", 2);
        run("39: no WORLDS are the fewest", "town 3", "map 2 0 0 0", "map 5 0 0 0").leaves("buy 2 0", 2)
            .leaves("buy 2 1", 0);
        run("39: no WORLDS by THE LAW: no MAPS", "map 2 0 0 0", "law may 0;harm 1;price 1;").leaves("buy 9999 0", 0)
            .leaves("buy 9999 1", 0);
    }

    // ---- promise 40

    private static void worthTakesMaps() {
        for (String m : NO_MAPS) {
            says("40: -5: no such MAP", 3, 0, 1).leaves("worth " + m, -5);
        }
        run("40: -5 without MAPS").leaves("worth 0", -5);
        int[][] bounds = {{998, 998}, {999, 999}, {1000, 999}, {0, 0}, {1, 1}, {9999, 999}};
        for (int[] b : bounds) {
            run("40: price (0 .. 999, else the bound)", "map 0 0 0 0", "law may 1;harm 1;price " + b[0] + ";")
                .leaves("worth 0", b[1]);
        }
        run("40: price (0 .. 999, else the bound)", "map 0 0 0 0", "law may 1;harm 1;price -1;").leaves("worth 0", 0);
        run("40: the greatest int", "map 0 0 0 0", "law may 1;harm 1;price 8192*8192*32-1;").leaves("worth 0", 999);
        run("40: the least int", "map 0 0 0 0", "law may 1;harm 1;price 8192*8192*32;").leaves("worth 0", 0);
        run("40: a b c d of what it SAYS, far is 0", "map 0 10 0 0", "map 0 53 0 0",
            "law may 1;harm 1;price a+b*2+c*4+d*8+far*100;").leaves("worth 0", 10).leaves("worth 1", 5);
        run("40: worlds: how many more by all others than by all", "town 9", "map 5 1 0 0", "law may 1;harm 1;price worlds;")
            .leaves("worth 0", 511).does("map 4 0 0 9").leaves("worth 1", 0).leaves("worth 0", 511)
            .does("map 5 1 0 0").leaves("worth 0", 0).leaves("worth 2", 0);
        run("40: worlds, of the eighth", EIGHT_OLD).does("law may 1;harm 1;price worlds;").leaves("worth 7", 1)
            .leaves("worth 0", 1);
        run("40: worlds, where there are none", "map 0 0 0 0", "law may 0;harm 1;price worlds;").leaves("worth 0", 0);
    }

    // ---- promise 41

    private static void drawnTakesSeedAndWhat() {
        for (String seed : new String[] {"-1", "100000", "MIN", "MAX"}) {
            run("41: BAD: SEED 0 .. 99999").leaves("drawn " + seed + " 0", -2).leaves("drawn " + seed + " 3", -2);
            run("41: BAD ahead of STATE", "law may 0;harm 1;price 1;").leaves("drawn " + seed + " 0", -2);
        }
        for (String what : new String[] {"3", "-1", "MIN", "MAX"}) {
            run("41: BAD: what").leaves("drawn 0 " + what, -2);
            run("41: BAD ahead of STATE", "law may 0;harm 1;price 1;").leaves("drawn 0 " + what, -2);
        }
        run("41: STATE: there are no WORLDS", EIGHT_OLD).leaves("drawn 0 0", -3).leaves("drawn 99999 1", -3)
            .leaves("drawn 5 2", -3).does("drop").leaves("drawn 0 0", 0).leaves("drawn 99999 0", 0);
    }

    private static void drawnGoesByLots() {
        for (int seed : new int[] {0, 1, 44487, 44488, 44489, 99998, 99999}) {
            long first = (seed + 1L) * 48271 % 2147483647, second = first * 48271 % 2147483647;
            for (int n = 1; n <= 9; n++) {
                int world = (int) (first % (1 << n)), c = (int) (second % n);
                run("Terms: LOTS, modulo how many WORLDS, modulo CHOICES", "town " + n).leaves("drawn " + seed + " 0", world)
                    .leaves("drawn " + seed + " 1", world ^ 1 << c).leaves("drawn " + seed + " 2", c);
            }
        }
        run("41: of one WORLD, of one CHOICE", "town 1", "look 0 1").leaves("drawn 7 0", 1).leaves("drawn 7 1", 0)
            .leaves("drawn 7 2", 0);
        // The first lots of 0 1 2 are 48271 96542 144813: modulo 3 they are 1 2 0.
        says("41: WORLDS from 0", 3, 6).leaves("drawn 0 0", 4).leaves("drawn 1 0", 7).leaves("drawn 2 0", 2);
    }

    // ---- promises 42, 43

    private static void imageTellsHowManyMaps() {
        run("42: how many MAPS").is("image", 0).does("map 0 0 0 0").is("image", 1).is("image", 1).does("drop").is("image", 0);
        run("42: all eight", EIGHT_OLD).is("image", 8).does("price 7 50", "price 0 60").is("back", 8).is("told 7 4", 1)
            .is("told 0 4", 1);
        run("42: another IMAGE takes its place", "look 0 1", "image", "look 0 0", "image", "look 0 -1").is("back", 0)
            .is("count 7", 1).is("count 8", 0);
        run("42: an IMAGE changes nothing else", "look 0 1", "map 2 5 0 0", "price 0 9", "image").leaves("told 0 4", 9)
            .leaves("count 8", 1);
    }

    private static void backGoesToTheImage() {
        run("43: STATE: there is none").leaves("back", -3).does("map 0 0 0 0", "look 0 1", "price 0 5").leaves("back", -3)
            .is("told 0 4", 5).is("count 7", 1);
        run("43: what was SEEN, PRICES, THE LAW", "map 0 0 0 0", "price 0 99", "look 0 0", "look 5 1",
            "read may a;harm 1;price 1;", "image", "price 0 0", "look 0 1", "look 5 -1", "look 3 1", "force 1").is("back", 1)
            .is("told 0 4", 99).is("count 7", 33).is("count 8", 32).is("count 5", 0);
        run("43: THE LAW that was forced then", "read may a;harm 1;price 1;", "force 1", "image", "force 0").is("back", 0)
            .is("count 5", 1).leaves("may 0", 0);
        run("43: a TEXT that came since stays, though it is no more THE LAW", "image", "law may a;harm 1;price 1;")
            .is("back", 0).is("count 5", 0).is("count 4", 2).is("force 1", 0);
        run("43: MAPS that came since are none", "map 0 1 0 0", "image", "map 0 2 0 0", "map 1 3 0 1").is("back", 1)
            .leaves("told 1 0", -5).leaves("told 2 0", -5).leaves("map 1 0 0 1", -2).is("map 2 4 0 0", 1)
            .leaves("told 1 4", 1).leaves("told 1 1", 4).is("back", 1);
        run("43: all MAPS came since", "image", "map 0 0 0 0", "map 0 0 0 0").is("back", 0).leaves("drop", -3)
            .is("town 9", 6);
        run("43: THE IMAGE stays", "look 0 1", "image").is("back", 0).does("look 0 0").is("back", 0).is("count 8", 1)
            .does("look 0 -1").is("back", 0).is("count 8", 1);
        run("43: what an IMAGE does not keep stays", "image", "street 0 1 -1 5", "goer 1", "sheet 0 0 4", "tape may")
            .is("tape  1", 5).is("back", 0).is("count 2", 1).is("count 3", 1).is("count 6", 5)
            .is("cell 0 3 1", 1);
        run("43: no IMAGE after town", "image", "town 6").leaves("back", -3);
        run("43: no IMAGE after a MAP that it has was dropped", "map 0 0 0 0", "image", "drop", "map 0 0 0 0")
            .leaves("back", -3);
    }

    public static void main(String[] args) {
        fromTakesMaps();
        treeWithoutMaps();
        drawnFromTakesMaps();
        overTakesMapsAndWhat();
        joinGoesByParts();
        yearsTakesMapsAndWhat();
        yearsAreLessOne();
        buyTakesCoinAndWhat();
        buyKeepsToTheCoin();
        worthTakesMaps();
        drawnTakesSeedAndWhat();
        drawnGoesByLots();
        imageTellsHowManyMaps();
        backGoesToTheImage();
        due.end();
    }
}
