/** Each sentence on WORLDS that names a boundary (promises 14 to 18 and their terms). */
public final class WorldsEdgesTest {
    private static final Due due = new Due("WorldsEdgesTest");
    /** Each of these leaves out just one of the eight TOWNS of three CHOICES: 7 less what it SAYS. */
    static final String[] EIGHT_OLD = {"town 3", "map 4 0 0 1", "map 4 1 0 1", "map 4 2 0 1", "map 4 3 0 1", "map 4 4 0 1",
        "map 4 5 0 1", "map 4 6 0 1", "map 4 7 0 1"};

    private static Run run(String sentence, String... first) {
        return Run.of(due, sentence, first);
    }

    // ---- promise 14

    private static void worldsTakesSetsOfMaps() {
        String sentence = "14: BAD: bits of no MAPS";
        run(sentence).leaves("worlds 0", 64).leaves("worlds 1", -2).leaves("worlds -1", -2).leaves("worlds MIN", -2)
            .leaves("worlds MAX", -2);
        run(sentence, "map 2 0 0 0", "map 2 1 0 0").leaves("worlds 3", 2).leaves("worlds 4", -2).leaves("worlds 5", -2)
            .leaves("worlds 7", -2).leaves("worlds -1", -2).leaves("worlds 256", -2).does("drop").leaves("worlds 2", -2)
            .leaves("worlds 1", 7);
        run(sentence, EIGHT_OLD).leaves("worlds 255", 0).leaves("worlds 256", -2).leaves("worlds 257", -2)
            .leaves("worlds MIN", -2).leaves("worlds MAX", -2);
    }

    private static void worldsByNoMapsOneMapAll() {
        run("Terms: WORLDS by no MAPS are TOWNS that MAY BE and have what was SEEN", "town 3", "map 0 0 0 0",
            "law may a;harm 1;price 1;", "look 1 0").leaves("worlds 0", 2).leaves("worlds 1", 1);
        run("Terms: WORLDS, 512 of them, and none", "town 9").leaves("worlds 0", 512).does("law may 0;harm 1;price 1;")
            .leaves("worlds 0", 0);
        run("Terms: with which all these MAPS AGREE", EIGHT_OLD).leaves("worlds 1", 7).leaves("worlds 127", 1)
            .leaves("worlds 254", 1).leaves("worlds 128", 7).leaves("worlds 15", 4);
        run("Terms: have all that was SEEN so", "town 3", "look 0 0", "look 2 1").leaves("worlds 0", 2)
            .leaves("world 0", 4).leaves("world 1", 6).leaves("world 2", -1);
        run("Terms: what was SEEN against THE LAW", "town 3", "law may a;harm 1;price 1;", "look 0 0").leaves("worlds 0", 0);
    }

    // ---- promise 15

    private static void worldsAreCountedFromZero() {
        String sentence = "15: WORLD k (from 0 on); -1: there is none";
        run(sentence, "town 3", "map 0 0 0 0").leaves("world 0", 1).leaves("world 1", 2).leaves("world 2", 4)
            .leaves("world 3", -1).leaves("world -1", -1).leaves("world MIN", -1).leaves("world MAX", -1);
        run(sentence, "town 9").leaves("world 0", 0).leaves("world 511", 511).leaves("world 512", -1);
        run(sentence, "law may 0;harm 1;price 1;").leaves("world 0", -1).leaves("world -1", -1);
        run("15: by all MAPS", EIGHT_OLD).leaves("world 0", -1).does("drop").leaves("world 0", 0).leaves("world 1", -1);
    }

    // ---- promise 16

    private static void sureTakesWhat() {
        for (String what : new String[] {"-1", "3", "MIN", "MAX"}) {
            run("16: BAD: what").leaves("sure " + what, -2);
            run("16: BAD ahead of STATE", "law may 0;harm 1;price 1;").leaves("sure " + what, -2);
        }
        run("16: STATE: there are no WORLDS", EIGHT_OLD).leaves("sure 0", -3).leaves("sure 1", -3).leaves("sure 2", -3)
            .does("drop").leaves("sure 0", 0).leaves("sure 1", 7).leaves("sure 2", 0);
        run("16: of one WORLD nothing is open", "look 0 1", "look 1 0", "look 2 1", "look 3 0", "look 4 0", "look 5 1")
            .leaves("sure 0", 37).leaves("sure 1", 26).leaves("sure 2", 0);
        run("16: of all TOWNS all is open", "town 9").leaves("sure 0", 0).leaves("sure 1", 0).leaves("sure 2", 511);
        run("16: CHOICES alone", "town 1", "look 0 1").leaves("sure 0", 1).leaves("sure 1", 0).leaves("sure 2", 0)
            .does("look 0 0").leaves("sure 0", 0).leaves("sure 1", 1).leaves("sure 2", 0);
    }

    // ---- promise 17

    private static void noneTellsTheFewest() {
        run("17: -1: there are some by all").leaves("none", -1).does("map 0 0 0 0").leaves("none", -1);
        run("17: no MAPS at all, if THE LAW lets none be", "law may 0;harm 1;price 1;").leaves("none", 0)
            .does("map 5 0 0 0").leaves("none", 0);
        run("17: no MAPS at all, by what was SEEN", "law may a;harm 1;price 1;", "look 0 0").leaves("none", 0);
        run("17: all eight MAPS", EIGHT_OLD).leaves("none", 255).does("drop").leaves("none", -1);
        run("17: the fewest", EIGHT_OLD).does("drop", "map 5 0 0 0").leaves("none", 128);
        run("17: of like ones the least", "town 3", "map 2 0 0 0", "map 2 7 0 0", "map 2 7 0 0", "map 2 0 0 0")
            .leaves("none", 3);
        // MAPS 0 and 3 leave none together, and so do 1 and 2: 6 is less than 9.
        run("17: of like ones the least", "town 4", "map 2 0 0 0", "map 3 1 7 0", "map 3 6 7 0", "map 2 15 0 0")
            .leaves("worlds 9", 0).leaves("worlds 6", 0).leaves("none", 6);
        run("17: by what was SEEN fewer are enough", EIGHT_OLD).does("look 0 0", "look 1 0").leaves("none", 136);
    }

    // ---- promise 18

    private static void judgeTakesTowns() {
        for (String t : new String[] {"64", "-1", "MIN", "MAX"}) {
            run("18: BAD: no TOWN", "map 0 0 0 0").leaves("judge " + t, -2);
            run("18: BAD ahead of 99", "law may 0;harm 1;price 1;").leaves("judge " + t, -2);
        }
        run("18: -1: all do").leaves("judge 0", -1).leaves("judge 63", -1).does("map 2 0 0 0").leaves("judge 0", -1)
            .leaves("judge 32", -1).leaves("judge 33", 0).leaves("judge 63", 0);
        run("18: the first MAP that does not AGREE", EIGHT_OLD).leaves("judge 7", 0).leaves("judge 6", 1)
            .leaves("judge 1", 6).leaves("judge 0", 7).does("drop").leaves("judge 0", -1);
        run("18: 99, ahead of these: it may not be", "town 3", "map 0 0 0 0", "law may a;harm 1;price 1;")
            .leaves("judge 0", 99).leaves("judge 6", 99).leaves("judge 1", -1).leaves("judge 3", 0);
        run("18: 99, ahead of these: was SEEN otherwise", "town 3", "map 0 0 0 0", "look 2 0").leaves("judge 4", 99)
            .leaves("judge 6", 99).leaves("judge 1", -1).leaves("judge 0", 0).does("look 2 1").leaves("judge 1", 99)
            .leaves("judge 4", -1);
    }

    public static void main(String[] args) {
        worldsTakesSetsOfMaps();
        worldsByNoMapsOneMapAll();
        worldsAreCountedFromZero();
        sureTakesWhat();
        noneTellsTheFewest();
        judgeTakesTowns();
        due.end();
    }
}
