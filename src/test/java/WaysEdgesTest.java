/** Each sentence on STREETS, WAYS, GOERS and HARM that names a boundary (promises 19 to 28 and their terms). */
public final class WaysEdgesTest {
    private static final Due due = new Due("WaysEdgesTest");
    private static final String[] NO_TWOS = {"-1", "-10", "-11", "6", "7", "8", "9", "16", "29", "36", "49", "56", "57", "58",
        "59", "60", "65", "66", "70", "99", "100", "101", "110", "256", "MIN", "MAX"};

    private static Run run(String sentence, String... first) {
        return Run.of(due, sentence, first);
    }

    // ---- promise 19

    private static void streetTakesItsNumbers() {
        String[] bad = {"-1 0 -1 1", "6 0 -1 1", "MIN 0 -1 1", "MAX 0 -1 1", "0 -1 -1 1", "0 6 -1 1", "0 MIN -1 1",
            "0 MAX -1 1", "0 1 -2 1", "0 1 6 1", "0 1 MIN 1", "0 1 MAX 1", "0 1 -1 0", "0 1 -1 100", "0 1 -1 -1",
            "0 1 -1 MIN", "0 1 -1 MAX", "0 1 5 100", "0 1 5 0"};
        Run run = run("19: BAD: PLACES 0 .. 5, a CHOICE or -1, TAKES 1 .. 99", "street 2 3 0 7");
        for (String b : bad) {
            run.leaves("street " + b, -2);
        }
        run.is("street 0 5 -1 1", 1).is("street 5 0 5 99", 2).leaves("taken 1 6", 1).leaves("taken 2 6", 99)
            .leaves("taken 0 6", 7);
        for (int p = 0; p < 6; p++) {
            run("19: BAD: one PLACE, too").leaves("street " + p + " " + p + " -1 1", -2);
        }
        run("19: a STREET as another is one of its own").is("street 0 1 0 5", 0).is("street 0 1 0 5", 1)
            .is("street 1 0 0 5", 2);
    }

    private static void twelveStreetsAtMost() {
        Run run = run("19: FULL: STREETS are numbered from 0 on, 12 at most");
        for (int s = 0; s < 12; s++) {
            run.is("count 2", s).is("street 0 1 -1 " + (s + 1), s).leaves("taken " + s + " 6", s + 1);
        }
        run.leaves("street 0 1 -1 1", -4).leaves("street 5 4 5 99", -4).is("count 2", 12).leaves("way 1 0", 1);
        for (String bad : new String[] {"0 0 -1 1", "6 0 -1 1", "0 6 -1 1", "0 1 6 1", "0 1 -2 1", "0 1 0 0", "0 1 0 100"}) {
            run.leaves("street " + bad, -2);
        }
        run("Terms: the last STREET counts", "street 0 1 -1 9", "street 0 1 -1 9", "street 0 1 -1 9", "street 0 1 -1 9",
            "street 0 1 -1 9", "street 0 1 -1 9", "street 0 1 -1 9", "street 0 1 -1 9", "street 0 1 -1 9",
            "street 0 1 -1 9", "street 0 1 -1 9", "street 0 5 -1 3").leaves("way 5 0", 3).leaves("way 15 0", 12);
    }

    // ---- promise 20

    private static void wayTakesTwoAndTown() {
        Run run = run("20: -5: two", "street 0 5 -1 4");
        for (String two : NO_TWOS) {
            run.leaves("way " + two + " 0", -5).leaves("way " + two + " 64", -5).leaves("way " + two + " MIN", -5);
        }
        run("20: -7: TOWN", "street 0 5 -1 4").leaves("way 5 64", -7).leaves("way 5 -1", -7).leaves("way 5 MIN", -7)
            .leaves("way 5 MAX", -7).leaves("way 0 64", -7).leaves("way 5 63", 4).leaves("way 5 0", 4);
        run("20: a -1 comes behind -7").leaves("way 1 64", -7).leaves("way 1 -1", -7).leaves("way 1 63", -1);
    }

    private static void wayFindsTheShortest() {
        String sentence = "Terms: alike well: 0";
        for (int p = 0; p < 6; p++) {
            run(sentence).leaves("way " + 11 * p + " 0", 0).does("street 0 1 -1 1").leaves("way " + 11 * p + " 0", 0);
        }
        run("20: -1: there is none", "street 0 1 -1 1", "street 2 3 -1 1").leaves("way 2 0", -1).leaves("way 4 0", -1)
            .leaves("way 45 0", -1).leaves("way 30 0", -1);
        run("Terms: open just if a CHOICE is so, or always", "town 9", "street 0 1 8 5", "street 1 2 0 6", "street 2 3 -1 7")
            .leaves("way 1 256", 5).leaves("way 1 255", -1).leaves("way 12 1", 6).leaves("way 12 510", -1)
            .leaves("way 23 0", 7).leaves("way 23 511", 7).leaves("way 3 257", 18);
        run("Terms: either way", "street 0 5 -1 4").leaves("way 5 0", 4).leaves("way 50 0", 4);
        Run chain = run("20: the longest there can be");
        for (int p = 0; p < 5; p++) {
            chain.does("street " + p + " " + (p + 1) + " -1 99");
        }
        chain.leaves("way 5 0", 495).leaves("way 50 0", 495).does("street 0 5 0 99").leaves("way 5 62", 495)
            .leaves("way 5 1", 99);
        run("20: the shortest, by however many STREETS", "street 0 5 -1 5", "street 0 1 -1 1", "street 1 2 -1 1",
            "street 2 3 -1 1", "street 3 5 -1 1").leaves("way 5 0", 4).leaves("way 50 0", 4).leaves("way 2 0", 2);
    }

    // ---- promise 21

    private static void safeTakesTwo() {
        Run run = run("21: -5: two", "street 0 5 -1 4");
        Run none = run("21: -5 ahead of STATE", "law may 0;harm 1;price 1;");
        for (String two : NO_TWOS) {
            run.leaves("safe " + two, -5);
            none.leaves("safe " + two, -5);
        }
        none.leaves("safe 5", -3).leaves("safe 0", -3).leaves("safe 55", -3);
        run("21: STATE: there are no WORLDS", "street 0 1 -1 1", "map 5 0 0 0").leaves("safe 1", -3).leaves("safe 2", -3)
            .leaves("safe 0", -3).does("drop").leaves("safe 1", 1).leaves("safe 2", -1).leaves("safe 0", 0);
    }

    private static void safeGoesByWhatIsOpenInAll() {
        run("21: open in all WORLDS", "town 2", "street 0 1 0 1", "street 0 1 1 3", "street 0 1 -1 7").leaves("safe 1", 7)
            .does("law may b;harm 1;price 1;").leaves("safe 1", 3).does("look 0 1").leaves("safe 1", 1);
        run("21: -1: there is none, though in each WORLD there is one", "town 1", "street 0 1 0 1", "street 0 2 -1 1",
            "law may a;harm 1;price 1;").leaves("safe 1", 1).does("force 0").leaves("safe 1", -1).leaves("safe 2", 1);
        run("21: -1, though in each of two WORLDS there is a WAY", "town 2", "law may a+b=1;harm 1;price 1;",
            "street 0 1 0 1", "street 0 1 1 1").leaves("way 1 1", 1).leaves("way 1 2", 1).leaves("safe 1", -1);
        run("21: all WORLDS, more than 7 too", "town 9", "street 0 1 -1 1").leaves("safe 1", 1);
    }

    // ---- promise 22

    private static void soonTakesTwo() {
        Run run = run("22: -5: two", "town 1", "street 0 5 -1 4");
        Run none = run("22: -5 ahead of STATE", "law may 0;harm 1;price 1;");
        Run more = run("22: -5 ahead of STATE");
        for (String two : NO_TWOS) {
            run.leaves("soon " + two, -5);
            none.leaves("soon " + two, -5);
            more.leaves("soon " + two, -5);
        }
        run("22: STATE: there are no WORLDS", "town 1", "law may 0;harm 1;price 1;").leaves("soon 1", -3)
            .leaves("soon 0", -3).leaves("soon 55", -3);
        Run eight = run("22: STATE: more than 7", "town 3", "street 0 1 -1 6").leaves("soon 1", -3).leaves("soon 0", -3);
        eight.does("law may a or b or c;harm 1;price 1;").leaves("worlds 0", 7).leaves("soon 1", 6).leaves("soon 0", 0)
            .leaves("soon 10", 6).leaves("soon 2", -1);
        run("22: STATE: many more than 7", "town 9").leaves("soon 0", -3);
        run("Terms: AT WORST of 1 WORLD", "town 9", "map 5 1 0 0", "street 0 1 1 4", "street 0 1 0 1").leaves("worlds 1", 1)
            .leaves("soon 1", 4).leaves("soon 11", 0).leaves("soon 2", -1);
    }

    private static void oneSeesWhatIsOpen() {
        // From 0 one sees a; from 1 (5 away, always) b. To 2: by a from 0 (3); by b from 1 (1), else back.
        run("Terms: at each PLACE to which one comes one sees what is open", "town 2", "street 0 2 0 3", "street 0 1 -1 5",
            "street 1 2 1 1", "street 1 2 -1 40", "law may a+b=1;harm 1;price 1;").leaves("soon 2", 6).leaves("soon 12", 8)
            .leaves("step 2 1", 0).leaves("step 2 2", 1).leaves("step 12 1", 1).leaves("step 12 2", 2);
        String[] hidden = {"town 2", "street 0 1 0 50", "street 0 2 -1 1", "street 2 3 -1 1", "street 2 4 -1 1",
            "street 3 5 0 1", "street 4 5 1 1", "law may a+b=1;harm 1;price 1;"};
        run("Terms: also the first, and what was seen elsewhere counts on", hidden).leaves("soon 5", 3).leaves("soon 25", 4)
            .leaves("soon 35", 3).leaves("soon 45", 3);
        run("Terms: both ends of a STREET show it", "town 1", "street 1 0 0 9", "street 0 2 -1 1", "street 2 1 -1 1")
            .leaves("soon 1", 2).leaves("step 1 1", 1).does("street 0 1 0 1")
            .leaves("soon 1", 2).leaves("step 1 1", 3).leaves("step 1 0", 1);
    }

    private static void oneGoesForTheWorstWorld() {
        // Straight on it takes 10 in both; by 1 it takes 2 in one WORLD, 12 (back, then on) in the other.
        run("Terms: it takes least in the WORLD in which it takes most", "town 1", "street 0 2 -1 10", "street 0 1 -1 1",
            "street 1 2 0 1").leaves("soon 2", 10).leaves("step 2 1", 0).leaves("step 2 0", 0).leaves("soon 12", 11)
            .leaves("step 12 1", 2).leaves("step 12 0", 1);
        run("Terms: the WORLD in which it takes most, of those that one sees apart at the first PLACE", "town 2",
            "law may a+b=1;harm 1;price 1;", "street 0 1 0 1", "street 0 2 1 2", "street 2 0 -1 20").leaves("soon 2", 20)
            .leaves("step 2 1", 2).leaves("step 2 2", 1).leaves("soon 12", -1);
        run("Terms: of those that one sees apart, whichever end of the STREET one is at", "town 2",
            "law may a+b=1;harm 1;price 1;", "street 2 1 0 1", "street 2 1 -1 40", "street 1 0 -1 1").leaves("soon 12", 40)
            .leaves("soon 2", 41).leaves("step 12 1", 0).leaves("step 12 2", 1).leaves("step 2 1", 2);
        run("22: -1: one can't be sure to come there", "town 1", "street 0 1 0 1").leaves("soon 1", -1).leaves("way 1 1", 1)
            .does("look 0 1").leaves("soon 1", 1).does("look 0 0").leaves("soon 1", -1);
        run("22: the longest there can be", "town 1", "street 0 1 -1 99", "street 1 2 -1 99", "street 2 3 -1 99",
            "street 3 4 -1 99", "street 4 5 0 99", "street 0 5 -1 99").leaves("soon 5", 99).leaves("soon 45", 495)
            .leaves("step 45 0", 3).leaves("step 45 1", 4);
    }

    // ---- promise 23

    private static void stepTakesTwoAndTown() {
        Run run = run("23: -5: two", "town 1", "street 0 5 -1 4");
        for (String two : NO_TWOS) {
            run.leaves("step " + two + " 0", -5).leaves("step " + two + " 2", -5).leaves("step " + two + " MAX", -5);
        }
        run.leaves("step 5 2", -7).leaves("step 5 -1", -7).leaves("step 5 MIN", -7).leaves("step 5 MAX", -7)
            .leaves("step 0 2", -7).leaves("step 5 1", 0).leaves("step 5 0", 0);
        run("23: -5, -7 ahead of STATE", "town 1", "law may 0;harm 1;price 1;").leaves("step 6 2", -5).leaves("step 6 0", -5)
            .leaves("step 5 2", -7).leaves("step 5 0", -3).leaves("step 0 0", -3).leaves("step 55 1", -3);
        run("23: STATE: more than 7 WORLDS", "town 3", "street 0 1 -1 6").leaves("step 1 0", -3).leaves("step 0 0", -3)
            .leaves("step 1 8", -7).does("law may a or b or c;harm 1;price 1;").leaves("step 1 1", 0).leaves("step 1 7", 0);
        run("23: STATE: it is no WORLD", "town 3", "street 0 1 -1 6", "map 0 0 0 0").leaves("step 1 1", 0)
            .leaves("step 1 4", 0).leaves("step 1 0", -3).leaves("step 1 3", -3).leaves("step 0 3", -3).leaves("step 1 8", -7)
            .does("look 0 0").leaves("step 1 1", -3).leaves("step 1 4", 0);
    }

    private static void stepTellsTheFirstStreet() {
        run("23: -1: one is there, too", "town 1", "street 0 1 -1 1").leaves("step 0 0", -1).leaves("step 11 1", -1)
            .leaves("step 55 0", -1);
        run("23: -1: none", "town 1", "street 0 1 0 1").leaves("step 2 0", -1).leaves("step 2 1", -1).leaves("step 1 0", -1)
            .leaves("step 10 0", -1);
        run("Terms: of like STREETS the first", "town 1", "street 0 1 0 3", "street 0 1 -1 3", "street 0 1 -1 3",
            "street 0 1 -1 2", "street 1 0 -1 2").leaves("step 1 0", 3).leaves("step 10 1", 3);
        run("Terms: of like STREETS the first that is open", "town 1", "street 0 1 0 3", "street 0 2 -1 1", "street 2 1 -1 2",
            "street 0 1 -1 3").leaves("step 1 1", 0).leaves("step 1 0", 1);
        Run last = run("23: the last STREET", "town 1");
        for (int s = 0; s < 11; s++) {
            last.does("street 0 1 -1 9");
        }
        last.is("street 0 1 0 8", 11).leaves("step 1 1", 11).leaves("step 1 0", 0).leaves("step 10 1", 11);
    }

    // ---- promise 24

    private static void tripTakesItsNumbers() {
        Run run = run("24: -5: MAP, two", "map 0 63 0 0", "street 0 5 -1 4");
        for (String two : NO_TWOS) {
            run.leaves("trip 0 " + two + " 0", -5).leaves("trip 0 " + two + " 64", -5).leaves("trip 1 " + two + " 0", -5);
        }
        for (String m : new String[] {"-1", "1", "8", "MIN", "MAX"}) {
            run.leaves("trip " + m + " 5 0", -5).leaves("trip " + m + " 0 0", -5).leaves("trip " + m + " 5 64", -5);
        }
        run.leaves("trip 0 5 64", -7).leaves("trip 0 5 -1", -7).leaves("trip 0 0 64", -7).leaves("trip 0 5 MIN", -7)
            .leaves("trip 0 5 MAX", -7).leaves("trip 0 5 63", 4).leaves("trip 0 5 0", 4).leaves("trip 0 4 64", -7)
            .leaves("trip 0 4 63", -1);
        run("24: -5 without MAPS", "street 0 5 -1 4").leaves("trip 0 5 0", -5).leaves("trip 0 0 0", -5);
    }

    private static void oneGoesByAMap() {
        String[] three = {"town 3", "map 0 7 0 0", "map 0 0 0 0", "street 0 1 0 1", "street 1 2 1 1", "street 0 2 2 5",
            "street 2 3 -1 2"};
        run("Terms: alike well: 0", three).leaves("trip 0 0 0", 0).leaves("trip 1 33 7", 0).leaves("trip 0 55 0", 0);
        run("Terms: if it is shut one looks anew from there (it takes nothing)", three).leaves("trip 0 2 7", 2)
            .leaves("trip 0 2 6", 5).leaves("trip 0 2 5", 7).leaves("trip 0 3 5", 9).leaves("trip 0 30 5", 7);
        run("Terms: one never comes there, if there is no WAY left", three).leaves("trip 0 2 0", -1).leaves("trip 0 2 1", -1)
            .leaves("trip 0 4 7", -1).leaves("trip 1 2 7", -1).leaves("trip 1 23 0", 2);
        run("Terms: the first STREET of a shortest WAY", "town 3", "map 0 7 0 0", "street 0 1 0 2", "street 0 2 1 1",
            "street 2 1 -1 1", "street 2 1 2 1").leaves("trip 0 1 7", 2).leaves("trip 0 1 6", 2).leaves("trip 0 1 1", 2)
            .leaves("trip 0 1 2", 2).leaves("trip 0 1 0", -1);
        run("Terms: one finds each shut STREET by itself", "town 1", "map 0 1 0 0", "street 0 1 0 1", "street 0 1 0 2",
            "street 0 2 -1 1", "street 2 1 0 1", "street 0 1 -1 50").leaves("trip 0 1 0", 52).leaves("trip 0 1 1", 1);
        run("24: what a PART SAYS counts whole", "town 2", "map 3 3 0 0", "street 0 1 0 1", "street 0 1 1 5")
            .leaves("trip 0 1 3", 1).leaves("trip 0 1 2", 5).leaves("trip 0 1 0", -1);
        // One goes to and fro between 0 and 4, each time to find another STREET to 5 shut, but for the last.
        run("24: often in vain", "town 1", "map 0 1 0 0", "street 0 1 -1 1", "street 1 2 -1 1", "street 2 3 -1 1",
            "street 3 4 -1 1", "street 4 5 0 1", "street 0 5 0 6", "street 4 5 0 11", "street 0 5 0 16", "street 4 5 0 21",
            "street 0 5 0 26", "street 4 5 0 31").leaves("trip 0 5 0", -1).leaves("trip 0 5 1", 5)
            .does("street 5 0 -1 36").leaves("trip 0 5 0", 8 * 4 + 36).leaves("way 5 0", 36);
        Run far = run("24: the longest way in vain", "town 1", "map 0 1 0 0", "street 0 1 -1 99", "street 1 2 -1 99",
            "street 2 3 -1 99", "street 3 4 -1 99", "street 4 5 0 1");
        far.leaves("trip 0 5 0", -1).does("street 0 5 -1 99", "street 0 5 -1 99").leaves("trip 0 5 0", 99)
            .leaves("trip 0 45 0", 495).leaves("trip 0 45 1", 1);
    }

    // ---- promise 25

    private static void goerTakesTwo() {
        Run run = run("25: BAD", "goer 12");
        for (String two : NO_TWOS) {
            run.leaves("goer " + two, -2);
        }
        run.is("goer 0", 1).is("goer 55", 2).is("goer 5", 3).is("goer 50", 4).is("count 3", 5);
        Run six = run("25: FULL: GOERS are numbered from 0 on, 6 at most");
        for (int g = 0; g < 6; g++) {
            six.is("count 3", g).is("goer " + 11 * g, g);
        }
        six.leaves("goer 0", -4).leaves("goer 12", -4).is("count 3", 6);
        for (String two : NO_TWOS) {
            six.leaves("goer " + two, -2);
        }
    }

    // ---- promise 26

    private static void harmTakesItsNumbers() {
        String[] first = {"street 0 1 0 1", "goer 1"};
        for (String t : new String[] {"64", "-1", "MIN", "MAX"}) {
            run("26: BAD: TOWN", first).leaves("harm " + t + " 0", -2).leaves("harm " + t + " 6", -2)
                .leaves("harm " + t + " MIN", -2);
        }
        for (String c : new String[] {"6", "-1", "MIN", "MAX", "32"}) {
            run("26: -5: no such CHOICE", first).leaves("harm 1 " + c, -5).leaves("harm 63 " + c, -5);
        }
        run("26: the greatest TOWN, the last CHOICE", "town 9", "street 0 1 8 1", "goer 1").leaves("harm 511 8", 99)
            .leaves("harm 511 7", 0).leaves("harm 256 8", 99).leaves("harm 255 8", 0);
        run("26: no GOERS", "street 0 1 0 1").leaves("harm 1 0", 0).leaves("harm 0 5", 0);
    }

    private static Run harmBy(String sentence, String harm, String... more) {
        return run(sentence, "town 2", "street 0 1 0 1", "street 0 1 1 4", "law may 1;harm " + harm + ";price 1;").does(more);
    }

    private static void harmIsBounded() {
        String sentence = "Terms: HARM 0 .. 999, else the bound";
        harmBy(sentence, "998", "goer 1").leaves("harm 3 0", 998).leaves("trick 3 0 1", 998).leaves("put 3 1", 998);
        harmBy(sentence, "999", "goer 1").leaves("harm 3 0", 999);
        harmBy(sentence, "1000", "goer 1").leaves("harm 3 0", 999).leaves("trick 3 0 1", 999).leaves("put 3 1", 999);
        harmBy(sentence, "8192*8192*32-1", "goer 1").leaves("harm 3 0", 999);
        harmBy(sentence, "0", "goer 1").leaves("harm 3 0", 0);
        harmBy(sentence, "-1", "goer 1").leaves("harm 3 0", 0).leaves("trick 3 0 1", 0).leaves("put 3 1", 0);
        harmBy(sentence, "8192*8192*32", "goer 1").leaves("harm 3 0", 0);
        harmBy("26: all HARM, each bounded by itself", "far*400-100", "goer 1", "goer 10", "goer 1", "goer 0", "goer 55",
            "goer 1").leaves("harm 3 0", 4 * 999).leaves("harm 3 1", 0);
        harmBy("26: all HARM of six GOERS", "1000", "goer 1", "goer 10", "goer 1", "goer 0", "goer 55", "goer 1")
            .leaves("harm 3 1", 6 * 999).leaves("put 3 1", 6 * 999).leaves("trick 3 5 1", 999);
    }

    private static void harmOfOneWhoNeverComes() {
        String sentence = "Terms: HARM: far is 99, if one never comes there";
        harmBy(sentence, "far", "goer 1").leaves("harm 1 0", 99).leaves("harm 2 1", 99).leaves("harm 3 0", 3)
            .leaves("harm 3 1", 0).leaves("harm 1 1", 0).leaves("harm 2 0", 0);
        harmBy(sentence, "far*2-a-b*3", "goer 1").leaves("harm 1 0", 197).leaves("harm 2 1", 195);
        run("Terms: HARM: far can be more than 99", "town 1", "street 0 1 0 1", "street 0 2 -1 99", "street 2 1 -1 99",
            "goer 1").leaves("harm 1 0", 197).leaves("trick 1 0 1", 197);
        sentence = "Terms: HARM is 0, if there is no WAY in that TOWN at all";
        harmBy(sentence, "far", "goer 1").leaves("harm 0 0", 0).leaves("harm 0 1", 0).leaves("put 0 1", 0)
            .leaves("trick 0 0 1", 0);
        harmBy(sentence, "7", "goer 1", "goer 2", "goer 0").leaves("harm 0 0", 7).leaves("harm 3 0", 14)
            .leaves("trick 0 0 1", 0).leaves("trick 3 0 1", 7).leaves("trick 3 1 1", 0).leaves("trick 0 2 1", 7);
        harmBy("Terms: HARM of one who is there: far is 0", "far+5", "goer 33").leaves("harm 0 0", 5).leaves("harm 3 1", 5);
        harmBy("Terms: harm of that TOWN, not of what the MAP SAYS", "a*10+b*20+worlds*100", "goer 0").leaves("harm 0 0", 0)
            .leaves("harm 1 0", 10).leaves("harm 2 0", 20).leaves("harm 3 1", 30);
    }

    // ---- promises 27, 28

    private static void putTakesItsNumbers() {
        String[] first = {"town 3", "street 0 1 0 1", "goer 1"};
        for (String t : new String[] {"8", "-1", "MIN", "MAX"}) {
            run("27: BAD", first).leaves("put " + t + " 0", -2).leaves("put " + t + " 2", -2);
        }
        for (String what : new String[] {"2", "-1", "MIN", "MAX"}) {
            run("27: BAD", first).leaves("put 7 " + what, -2);
        }
        run("27: of like ones the first", "town 3", "street 0 1 0 1", "goer 1").leaves("put 1 0", 1).leaves("put 1 1", 0)
            .leaves("put 0 0", 0).leaves("put 0 1", 0);
        run("27: of like ones the first, without GOERS", "town 3", "street 0 1 0 1").leaves("put 7 0", 0).leaves("put 7 1", 0);
        run("27: the last CHOICE", "town 3", "street 0 1 0 1", "street 2 3 1 1", "goer 1", "goer 23").leaves("put 3 0", 2)
            .leaves("put 3 1", 0);
        run("27: of one CHOICE", "town 1", "street 0 1 0 1", "goer 1").leaves("put 1 0", 0).leaves("put 1 1", 99);
    }

    private static void trickTakesItsNumbers() {
        String[] first = {"town 3", "street 0 1 2 1", "street 0 1 -1 8", "goer 1", "goer 2"};
        for (String t : new String[] {"8", "-1", "MIN", "MAX"}) {
            run("28: BAD", first).leaves("trick " + t + " 0 0", -2).leaves("trick " + t + " 2 0", -2)
                .leaves("trick " + t + " -1 2", -2);
        }
        for (String what : new String[] {"2", "-1", "MIN", "MAX"}) {
            run("28: BAD ahead of -5", first).leaves("trick 7 0 " + what, -2).leaves("trick 7 2 " + what, -2)
                .leaves("trick 7 MIN " + what, -2);
        }
        for (String g : new String[] {"2", "-1", "6", "MIN", "MAX"}) {
            run("28: -5: no such GOER", first).leaves("trick 7 " + g + " 0", -5).leaves("trick 0 " + g + " 1", -5);
        }
        run("28: -5 without GOERS", "town 3").leaves("trick 7 0 0", -5).leaves("trick 8 0 0", -2);
        run("28: the CHOICE for which HARM is most", first).leaves("trick 7 0 0", 2).leaves("trick 7 0 1", 7)
            .leaves("trick 4 0 0", 2);
        run("28: of like ones the first", first).leaves("trick 0 0 0", 0).leaves("trick 0 0 1", 0).leaves("trick 7 1 0", 0)
            .leaves("trick 7 1 1", 0);
        // Were there a slip beyond the last CHOICE, it would do no harm, by which this law finds most.
        run("28: CHOICES alone", "town 1", "street 0 1 0 1", "goer 1", "law may 1;harm 200-far;price 1;")
            .leaves("trick 1 0 0", 0).leaves("trick 1 0 1", 101).leaves("put 1 1", 101);
        run("28: of like ones the first", "town 3", "street 0 1 1 1", "street 1 2 2 1", "goer 2").leaves("trick 6 0 0", 1)
            .leaves("trick 6 0 1", 99);
    }

    public static void main(String[] args) {
        streetTakesItsNumbers();
        twelveStreetsAtMost();
        wayTakesTwoAndTown();
        wayFindsTheShortest();
        safeTakesTwo();
        safeGoesByWhatIsOpenInAll();
        soonTakesTwo();
        oneSeesWhatIsOpen();
        oneGoesForTheWorstWorld();
        stepTakesTwoAndTown();
        stepTellsTheFirstStreet();
        tripTakesItsNumbers();
        oneGoesByAMap();
        goerTakesTwo();
        harmTakesItsNumbers();
        harmIsBounded();
        harmOfOneWhoNeverComes();
        putTakesItsNumbers();
        trickTakesItsNumbers();
        due.end();
    }
}
