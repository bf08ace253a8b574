/** Each sentence on MAPS, their KINDS and what was SEEN that names a boundary (promises 8 to 13 and their terms). */
public final class MapsEdgesTest {
    private static final Due due = new Due("MapsEdgesTest");
    private static final String[] EIGHT = {"map 0 0 0 0", "map 0 1 0 0", "map 0 2 0 0", "map 0 3 0 0", "map 0 4 0 0",
        "map 0 5 0 0", "map 0 6 0 0", "map 0 7 0 0"};

    private static Run run(String sentence, String... first) {
        return Run.of(due, sentence, first);
    }

    // ---- promise 8

    private static void mapTakesItsNumbers() {
        String[] bad = {"-1 0 0 0", "6 0 0 0", "MIN 0 0 0", "MAX 0 0 0", "0 -1 0 0", "0 64 0 0", "0 MIN 0 0", "0 MAX 0 0",
            "0 0 -1 0", "0 0 64 0", "0 0 MIN 0", "0 0 MAX 0", "0 0 0 -1", "0 0 0 10", "0 0 0 MIN", "0 0 0 MAX", "5 0 0 10",
            "3 0 64 0", "1 0 0 10", "1 0 0 -1", "1 0 64 0", "1 64 0 0"};
        Run run = run("8: BAD: KIND 0 .. 5, SAYS a TOWN, MASK bits of CHOICES, MORE 0 .. 9", "map 0 5 0 0");
        for (String b : bad) {
            run.leaves("map " + b, -2);
        }
        run.is("map 5 63 63 9", 1).is("map 0 0 0 0", 2).is("count 1", 3);
    }

    private static void aCopyIsOfAMapThatThereIs() {
        String sentence = "8: BAD of a COPY also: there is no MAP MORE";
        run(sentence).leaves("map 1 0 0 0", -2).leaves("map 1 0 0 9", -2).is("map 4 0 0 9", 0).leaves("map 1 0 0 1", -2)
            .is("map 1 0 0 0", 1).leaves("map 1 0 0 2", -2).is("map 1 0 0 1", 2).does("drop").leaves("map 1 0 0 2", -2);
        run(sentence, EIGHT).does("drop").leaves("map 1 0 0 7", -2).leaves("map 1 0 0 8", -2).leaves("map 1 0 0 9", -2)
            .is("map 1 0 0 6", 7);
        run("8: MORE of other KINDS need be no MAP").is("map 0 0 0 9", 0).is("map 2 0 0 8", 1).is("map 3 0 0 7", 2)
            .is("map 4 0 0 6", 3).is("map 5 0 0 5", 4);
    }

    private static void eightMapsAtMost() {
        String sentence = "8: FULL: MAPS are numbered from 0 on, 8 at most";
        Run run = run(sentence);
        for (int m = 0; m < 8; m++) {
            run.is("count 1", m).is(EIGHT[m], m).is("told " + m + " 1", m);
        }
        run.leaves("map 0 0 0 0", -4).leaves("map 1 0 0 7", -4).leaves("map 5 63 63 9", -4).is("count 1", 8)
            .does("drop").is("map 2 9 0 0", 7).leaves("map 2 9 0 0", -4);
        run("8: BAD ahead of FULL", EIGHT).leaves("map 6 0 0 0", -2).leaves("map -1 0 0 0", -2).leaves("map 0 64 0 0", -2)
            .leaves("map 0 0 64 0", -2).leaves("map 0 0 0 10", -2).leaves("map 1 0 0 8", -2).leaves("map 1 0 0 9", -2);
    }

    // ---- promise 9

    private static void dropOfNone() {
        run("9: STATE: there is none").leaves("drop", -3).does("map 0 0 0 0").is("drop", 0).leaves("drop", -3)
            .leaves("drop", -3).is("map 0 0 0 0", 0);
        run("9: how many there are", EIGHT).is("drop", 7).is("drop", 6).is("drop", 5).is("drop", 4).is("drop", 3)
            .is("drop", 2).is("drop", 1).is("drop", 0).leaves("drop", -3);
        run("9: an IMAGE stays by a drop that is refused", "image").leaves("drop", -3).is("back", 0);
    }

    private static void theLatestMapIsNone() {
        run("9: the latest MAP is none any more", "map 0 5 0 0", "map 2 6 7 8").is("drop", 1).leaves("told 1 0", -5)
            .leaves("slips 1 0 0", -5).leaves("price 1 5", -1).leaves("worlds 2", -2).leaves("trip 1 0 0", -5)
            .leaves("from 1", -5).leaves("drawnFrom 1", -5).leaves("over 0 1 0", -5).leaves("years 1 0", -5)
            .leaves("worth 1", -5).leaves("taken 13 0", -11).leaves("told 0 1", 5).leaves("worlds 1", 6);
    }

    private static void dropTakesTheImageThatHasTheMap() {
        String sentence = "9: nor is there an IMAGE that has it";
        run(sentence, "map 0 1 0 0", "map 0 2 0 0", "image").is("drop", 1).leaves("back", -3).does("map 0 2 0 0")
            .leaves("back", -3);
        run(sentence, "map 0 1 0 0", "image", "map 0 2 0 0").is("drop", 1).is("back", 1).is("drop", 0).leaves("back", -3);
        run(sentence, "image", "map 0 1 0 0").is("drop", 0).is("back", 0);
        run(sentence, "map 0 1 0 0", "image", "drop", "image").is("back", 0);
    }

    // ---- promise 10

    private static void priceTakesItsNumbers() {
        String sentence = "10: BAD: a PRICE of 0 .. 99";
        run(sentence, "map 0 0 0 0", "map 0 0 0 0").is("price 1 99", 1).is("price 1 0", 99).leaves("price 1 100", -2)
            .leaves("price 1 -1", -2).leaves("price 1 MIN", -2).leaves("price 1 MAX", -2).is("told 1 4", 0)
            .is("told 0 4", 1);
        run("10: NONE, ahead of BAD").leaves("price 0 0", -1).leaves("price 0 100", -1).does("map 0 0 0 0")
            .leaves("price 1 0", -1).leaves("price 1 -1", -1).leaves("price -1 0", -1).leaves("price MIN MIN", -1)
            .leaves("price MAX MAX", -1).is("price 0 0", 1);
        run("Terms: a PRICE is 1 at first", "map 0 0 0 0", "price 0 50", "drop", "map 0 0 0 0").is("price 0 1", 1);
        run("10: NONE behind the eighth", EIGHT).leaves("price 8 1", -1).is("price 7 1", 1);
    }

    // ---- promise 11

    private static void toldTakesItsNumbers() {
        run("11: -5: no such MAP").leaves("told 0 0", -5).does("map 3 1 2 4").leaves("told 1 0", -5).leaves("told -1 0", -5)
            .leaves("told MIN 0", -5).leaves("told MAX 0", -5).leaves("told 1 5", -5).leaves("told -1 MAX", -5);
        run("11: -7: what", "map 3 1 2 4").leaves("told 0 5", -7).leaves("told 0 -1", -7).leaves("told 0 MIN", -7)
            .leaves("told 0 MAX", -7).leaves("told 0 0", 3).leaves("told 0 1", 1).leaves("told 0 2", 2)
            .leaves("told 0 3", 4).leaves("told 0 4", 1);
        run("11: the greatest numbers", "town 9", "map 5 511 511 9", "price 0 99").leaves("told 0 0", 5)
            .leaves("told 0 1", 511).leaves("told 0 2", 511).leaves("told 0 3", 9).leaves("told 0 4", 99);
    }

    // ---- promise 12

    private static void slipsTakesItsNumbers() {
        run("12: -5: no such MAP").leaves("slips 0 0 0", -5).does("map 0 0 0 0").leaves("slips 1 0 0", -5)
            .leaves("slips -1 0 0", -5).leaves("slips MIN MIN MIN", -5).leaves("slips MAX MAX MAX", -5)
            .leaves("slips 1 64 2", -5);
        run("12: -7: TOWN, what", "map 0 63 0 0").leaves("slips 0 64 0", -7).leaves("slips 0 -1 0", -7)
            .leaves("slips 0 0 2", -7).leaves("slips 0 0 -1", -7).leaves("slips 0 MIN 0", -7).leaves("slips 0 MAX 1", -7)
            .leaves("slips 0 0 MIN", -7).leaves("slips 0 0 MAX", -7).leaves("slips 0 63 0", 0).leaves("slips 0 0 0", 63)
            .leaves("slips 0 63 1", 0).leaves("slips 0 31 1", 1);
        run("12: of a PART those in MASK", "map 3 63 20 0", "map 3 63 0 0", "map 0 63 20 0", "map 2 63 20 0",
            "map 4 63 20 0", "map 5 63 20 0", "map 1 63 20 0").leaves("slips 0 0 0", 20).leaves("slips 1 0 0", 0)
            .leaves("slips 2 0 0", 63).leaves("slips 3 0 0", 63).leaves("slips 4 0 0", 63).leaves("slips 5 0 0", 63)
            .leaves("slips 6 0 0", 63).leaves("slips 0 47 0", 16).leaves("slips 0 43 0", 20);
    }

    /** The TOWNS of a town of n CHOICES with which MAP m AGREES are those that are told. */
    private static void agrees(Run run, int n, int m, int... towns) {
        for (int t = 0; t < 1 << n; t++) {
            int want = 0;
            for (int town : towns) {
                want |= town == t ? 1 : 0;
            }
            run.is("slips " + m + " " + t + " 1", want);
        }
    }

    private static void aMapHasJustOneSlip() {
        agrees(run("Terms: MAP: there is just one SLIP", "town 3", "map 0 5 2 9"), 3, 0, 4, 7, 1);
        agrees(run("Terms: MAP: there is just one SLIP", "town 1", "map 0 1 0 0"), 1, 0, 0);
    }

    private static void aCopySaysJustOneOtherwise() {
        String sentence = "Terms: COPY: it SAYS just one CHOICE otherwise than MAP MORE does, and that one AGREES";
        Run run = run(sentence, "town 3", "map 0 5 0 0", "map 1 5 0 0", "map 1 4 0 0", "map 1 6 0 0", "map 1 2 0 0",
            "map 1 5 0 2", "map 1 7 0 1");
        agrees(run, 3, 0, 4, 7, 1);
        agrees(run, 3, 1);
        agrees(run, 3, 2, 4, 7, 1);
        agrees(run, 3, 3);
        agrees(run, 3, 4);
        agrees(run, 3, 5, 4, 7, 1);
        // MAP 1 SAYS just one CHOICE otherwise, but AGREES with no TOWN.
        agrees(run, 3, 6);
        Run kinds = run(sentence, "town 3", "map 3 5 3 0", "map 1 4 0 0", "map 4 0 0 0", "map 1 1 0 2", "map 5 1 0 0",
            "map 1 3 0 4");
        agrees(kinds, 3, 1, 0, 1, 3, 4, 5, 7);
        agrees(kinds, 3, 3, 0, 1, 2, 4);
        agrees(kinds, 3, 5, 2);
        Run chain = run("Terms: a COPY of a COPY, to the eighth", "town 1", "map 2 0 0 0", "map 1 1 0 0", "map 1 0 0 1",
            "map 1 1 0 2", "map 1 0 0 3", "map 1 1 0 4", "map 1 0 0 5", "map 1 1 0 6");
        agrees(chain, 1, 7, 0, 1);
        run("Terms: the SLIPS of a COPY are as of a MAP", "town 3", "map 0 5 0 0", "map 1 4 3 0").leaves("slips 1 3 0", 7)
            .leaves("slips 1 4 0", 0);
    }

    private static void aMendedMapHasOneSlipOrNone() {
        agrees(run("Terms: MENDED: one SLIP, or none", "town 3", "map 2 5 0 9"), 3, 0, 5, 4, 7, 1);
        agrees(run("Terms: MENDED: its MASK does not count", "town 3", "map 2 5 1 0"), 3, 0, 5, 4, 7, 1);
    }

    private static void ofAPartSlipsCountInItsMask() {
        String sentence = "Terms: PART: SLIPS count in MASK alone";
        agrees(run(sentence, "town 3", "map 3 5 0 0"), 3, 0, 0, 1, 2, 3, 4, 5, 6, 7);
        agrees(run(sentence, "town 3", "map 3 5 2 0"), 3, 0, 0, 1, 2, 3, 4, 5, 6, 7);
        agrees(run(sentence, "town 3", "map 3 5 5 0"), 3, 0, 5, 7, 4, 6, 1, 3);
        agrees(run(sentence, "town 3", "map 3 5 7 0"), 3, 0, 5, 4, 7, 1);
    }

    private static void anOldMapHasNoMoreThanMoreAndOne() {
        String sentence = "Terms: OLD: no more than MORE and 1 SLIPS";
        agrees(run(sentence, "town 3", "map 4 0 0 0"), 3, 0, 0, 1, 2, 4);
        agrees(run(sentence, "town 3", "map 4 0 0 1"), 3, 0, 0, 1, 2, 3, 4, 5, 6);
        agrees(run(sentence, "town 3", "map 4 0 0 2"), 3, 0, 0, 1, 2, 3, 4, 5, 6, 7);
        run(sentence, "town 9", "map 4 0 0 7", "map 4 0 0 8", "map 4 0 0 9").leaves("slips 0 511 1", 0)
            .leaves("slips 0 510 1", 1).leaves("slips 1 511 1", 1).leaves("slips 2 511 1", 1).leaves("worlds 1", 511)
            .leaves("worlds 2", 512).leaves("worlds 4", 512);
    }

    private static void aSwappedMapHasTwoOneBehindTheOther() {
        String sentence = "Terms: SWAPPED: SLIPS are just two CHOICES one behind the other";
        agrees(run(sentence, "town 3", "map 5 1 0 0"), 3, 0, 2);
        agrees(run(sentence, "town 3", "map 5 5 0 0"), 3, 0, 3, 6);
        agrees(run(sentence, "town 1", "map 5 1 0 0"), 1, 0);
        agrees(run(sentence, "town 2", "map 5 2 0 0"), 2, 0, 1);
        agrees(run("Terms: SWAPPED: of which the TOWN has just one", "town 2", "map 5 0 0 0"), 2, 0);
        agrees(run("Terms: SWAPPED: of which the TOWN has just one", "town 2", "map 5 3 0 0"), 2, 0);
        run("Terms: SWAPPED: the last and the first are not one behind the other", "town 9", "map 5 1 0 0")
            .leaves("slips 0 256 1", 0).leaves("slips 0 2 1", 1).leaves("slips 0 128 1", 0).leaves("worlds 1", 1);
        run("Terms: SWAPPED: the last two", "town 9", "map 5 256 0 0").leaves("slips 0 128 1", 1).leaves("worlds 1", 1);
        run("Terms: SWAPPED: not three, not four", "town 4", "map 5 5 0 0").leaves("slips 0 10 1", 0)
            .leaves("slips 0 2 1", 0).leaves("slips 0 6 1", 1).leaves("slips 0 3 1", 1).leaves("slips 0 9 1", 1)
            .leaves("worlds 1", 3);
    }

    // ---- promise 13

    private static void lookTakesItsNumbers() {
        run("13: -5: no such CHOICE", "look 0 1").leaves("look 6 1", -5).leaves("look -1 1", -5).leaves("look MIN 1", -5)
            .leaves("look MAX 1", -5).leaves("look 6 2", -5).leaves("look -1 -2", -5).leaves("look 32 1", -5)
            .is("look 5 1", -1).is("look 0 1", 1);
        run("13: -7: v", "look 0 1").leaves("look 0 2", -7).leaves("look 0 -2", -7).leaves("look 0 MIN", -7)
            .leaves("look 0 MAX", -7).is("look 0 0", 1);
        run("13: what was: 1, 0, -1").is("look 3 -1", -1).is("look 3 0", -1).is("look 3 0", 0).is("look 3 1", 0)
            .is("look 3 1", 1).is("look 3 -1", 1).is("look 3 1", -1).is("look 3 0", 1).is("look 3 -1", 0).is("count 7", 0)
            .is("count 8", 0);
        run("13: all CHOICES", "town 9", "look 0 1", "look 1 0", "look 2 1", "look 3 0", "look 4 1", "look 5 0", "look 6 1",
            "look 7 0", "look 8 1").is("count 7", 511).is("count 8", 341).leaves("worlds 0", 1).leaves("world 0", 341)
            .leaves("world 1", -1);
        run("13: an answer of -1 is none that refuses", "look 2 1").is("look 1 1", -1).is("count 7", 6);
    }

    public static void main(String[] args) {
        mapTakesItsNumbers();
        aCopyIsOfAMapThatThereIs();
        eightMapsAtMost();
        dropOfNone();
        theLatestMapIsNone();
        dropTakesTheImageThatHasTheMap();
        priceTakesItsNumbers();
        toldTakesItsNumbers();
        slipsTakesItsNumbers();
        aMapHasJustOneSlip();
        aCopySaysJustOneOtherwise();
        aMendedMapHasOneSlipOrNone();
        ofAPartSlipsCountInItsMask();
        anOldMapHasNoMoreThanMoreAndOne();
        aSwappedMapHasTwoOneBehindTheOther();
        lookTakesItsNumbers();
        due.end();
    }
}
