/** Each sentence on how many MAPS are enough and where to look that names a boundary (promises 29 to 32). */
public final class LooksEdgesTest {
    private static final Due due = new Due("LooksEdgesTest");
    private static final String[] EIGHT_OLD = WorldsEdgesTest.EIGHT_OLD;

    private static Run run(String sentence, String... first) {
        return Run.of(due, sentence, first);
    }

    private static Run law(String sentence, int n, String may) {
        return run(sentence, "town " + n, "law may " + may + ";harm 1;price 1;");
    }

    // ---- promise 29

    private static void enoughTakesChoices() {
        for (String c : new String[] {"6", "-1", "MIN", "MAX", "32"}) {
            run("29: -5: no such CHOICE", "look 0 1").leaves("enough " + c, -5);
            run("29: -5 ahead of STATE", "law may 0;harm 1;price 1;").leaves("enough " + c, -5);
        }
        run("29: STATE: there are no WORLDS by all", EIGHT_OLD).leaves("enough 0", -3).leaves("enough 2", -3)
            .leaves("enough 3", -5).does("drop").leaves("enough 0", 85).leaves("enough 3", -5);
        law("29: STATE: there are no WORLDS without MAPS", 3, "0").leaves("enough 0", -3).leaves("enough 2", -3);
        run("29: STATE by what was SEEN", "town 3", "map 0 0 0 0", "look 0 0", "look 1 0", "look 2 0")
            .leaves("enough 0", -3);
        run("29: the last CHOICE", "town 9", "look 8 1").leaves("enough 8", 0).leaves("enough 7", -1).leaves("enough 9", -5);
    }

    private static void enoughTellsTheFewest() {
        law("29: no MAPS: so in all WORLDS, or in none, by THE LAW", 3, "a and not b").leaves("enough 0", 0)
            .leaves("enough 1", 0).leaves("enough 2", -1);
        run("29: no MAPS, by what was SEEN", "look 3 0", "look 4 1").leaves("enough 3", 0).leaves("enough 4", 0)
            .leaves("enough 5", -1);
        run("29: -1: by no MAPS, also by all not").leaves("enough 0", -1).does("map 0 0 0 0", "map 2 0 0 0")
            .leaves("enough 0", -1);
        run("29: in none is enough, too", "town 3", "map 0 6 0 0", "map 2 0 0 0").leaves("enough 0", 3).leaves("enough 1", -1);
        run("29: of like ones the least", "town 3", "map 0 6 0 0", "map 2 0 0 0", "map 2 0 0 0", "map 0 6 0 0")
            .leaves("enough 0", 3);
        run("29: fewer ahead of less", "town 3", "map 0 6 0 0", "map 2 0 0 0", "map 5 1 0 0").leaves("enough 1", 4)
            .leaves("enough 0", 4).leaves("enough 2", 4);
        run("29: by seven MAPS", EIGHT_OLD).does("drop", "map 3 0 0 0").leaves("enough 0", 85).leaves("enough 1", 51)
            .leaves("enough 2", 15);
    }

    // ---- promise 30

    private static void manyTellsTheFewest() {
        run("30: no MAPS, where there are none").leaves("many", 0);
        run("30: no MAPS, where all tell nothing", "town 3", "map 4 0 0 9", "map 3 0 1 0").leaves("many", 0);
        law("30: no MAPS, where there are no WORLDS", 3, "0").leaves("many", 0).does("map 0 0 0 0").leaves("many", 0);
        run("30: all eight", EIGHT_OLD).leaves("many", 255).does("drop").leaves("many", 127).does("drop").leaves("many", 63);
        run("30: of like ones the least", "town 3", "map 0 6 0 0", "map 0 6 0 0", "map 0 6 0 0").leaves("many", 1);
        run("30: fewer ahead of less", "town 3", "map 3 0 3 0", "map 3 0 6 0", "map 3 0 5 0", "map 2 0 0 0")
            .leaves("many", 8);
        // MAPS 0 and 3 leave as many as all do, and so do 1 and 2: 6 is less than 9.
        run("30: of like ones the least", "town 4", "map 2 0 0 0", "map 3 1 7 0", "map 3 6 7 0", "map 2 15 0 0")
            .leaves("many", 6);
    }

    // ---- promise 31

    private static void nextTakesWhat() {
        for (String what : new String[] {"2", "-1", "MIN", "MAX"}) {
            run("31: BAD").leaves("next " + what, -2);
            run("31: BAD ahead of STATE", "law may 0;harm 1;price 1;").leaves("next " + what, -2);
        }
        law("31: STATE: there are no WORLDS, ahead of -1", 3, "0").leaves("next 0", -3).leaves("next 1", -3);
        run("31: STATE: there are no WORLDS, ahead of -1", EIGHT_OLD).leaves("next 0", -3).leaves("next 1", -3);
    }

    private static void nextTellsTheFirst() {
        law("31: -1: none, of one WORLD", 3, "a and not b and c").leaves("next 0", -1).leaves("next 1", 1);
        law("31: of two WORLDS", 3, "a and not b").leaves("next 0", 2).leaves("next 1", 1);
        run("31: of like ones the first").leaves("next 0", 0).leaves("next 1", 32).does("look 0 0").leaves("next 0", 1)
            .leaves("next 1", 16);
        run("31: of 512 WORLDS", "town 9").leaves("next 0", 0).leaves("next 1", 256);
        law("31: by all MAPS", 3, "a+b+c=1").leaves("next 0", 0).leaves("next 1", 2).does("map 3 6 6 0")
            .leaves("next 0", 1).leaves("next 1", 1);
        run("31: whether it is so or not: the more of both counts", "town 3", "map 2 0 0 0").leaves("next 0", 0)
            .leaves("next 1", 3);
        law("31: a CHOICE that leaves fewer, further on", 3, "a or b and c").leaves("next 0", 1).leaves("next 1", 3);
    }

    // ---- promise 32

    private static void looksTakesOneToSeven() {
        law("32: STATE: there are no WORLDS", 3, "0").leaves("looks", -3);
        law("32: STATE: more than 7", 3, "1").leaves("looks", -3);
        run("32: STATE: many more than 7", "town 9").leaves("looks", -3);
        law("32: seven", 3, "a or b or c").leaves("looks", 3);
        law("32: a CHOICE that is so in none, or in all, parts nothing", 5, "d=0 and (a or b or c)").does("look 4 1")
            .leaves("worlds 0", 7).leaves("looks", 3).does("look 4 0").leaves("looks", 3);
        law("32: till there is one WORLD: none of one", 3, "a and b and c").leaves("looks", 0);
        law("32: one of two", 3, "a and b").leaves("looks", 1);
        law("32: of two that are unlike in all", 3, "a=b and b=c").leaves("looks", 1);
        law("32: of three", 2, "a or b").leaves("looks", 2);
        law("32: of four", 2, "1").leaves("looks", 2);
        run("32: as many as can be: six of seven", "town 9", "map 0 511 0 0", "look 8 1", "look 7 1").leaves("looks", 6);
        run("32: six of seven, the one with none", "town 6", "map 2 63 0 0").leaves("worlds 1", 7).leaves("looks", 6);
        law("32: each by what was seen so far", 4, "a and (b and d=0 or b=0 and d) and c=0 or a=0 and d=0 and (c and b=0 or b and c=0)")
            .leaves("worlds 0", 4).leaves("looks", 2);
        law("32: as well as can be: the CHOICE that parts best is not the best", 4, "d=0 and a+b+c=1 or d and a+b+c=2")
            .leaves("looks", 3);
    }

    public static void main(String[] args) {
        enoughTakesChoices();
        enoughTellsTheFewest();
        manyTellsTheFewest();
        nextTakesWhat();
        nextTellsTheFirst();
        looksTakesOneToSeven();
        due.end();
    }
}
