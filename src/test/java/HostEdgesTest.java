/** Each sentence on SHEETS, MAPS by them and what lies at a place that names a boundary (promises 44 to 48). */
public final class HostEdgesTest {
    private static final Due due = new Due("HostEdgesTest");
    private static final String[] NO_SHEETS = {"-1", "4", "5", "MIN", "MAX", "32"};

    private static Run run(String sentence, String... first) {
        return Run.of(due, sentence, first);
    }

    private static Run cells(Run run, int s, int at, int... numbers) {
        for (int i = 0; i < numbers.length; i++) {
            run.is("cell " + s + " " + (at + i) + " " + numbers[i], 1);
        }
        return run;
    }

    private static Run toldAs(Run run, int m, int kind, int says, int mask, int more) {
        return run.is("told " + m + " 0", kind).is("told " + m + " 1", says).is("told " + m + " 2", mask)
            .is("told " + m + " 3", more);
    }

    // ---- promise 44

    private static void sheetTakesItsNumbers() {
        for (String s : NO_SHEETS) {
            run("44: BAD: SHEET", "sheet 0 2 4").leaves("sheet " + s + " 0 1", -2).leaves("sheet " + s + " -1 0", -2)
                .leaves("sheet " + s + " 0 -1", -2);
        }
        for (String sort : new String[] {"-2", "3", "MIN", "MAX"}) {
            run("44: BAD: sort", "sheet 0 2 4").leaves("sheet 0 " + sort + " 1", -2).leaves("sheet 0 " + sort + " -1", -2)
                .leaves("sheet 0 " + sort + " MIN", -2);
        }
        for (String n : new String[] {"41", "42", "MAX"}) {
            run("44: BAD: n above 40", "sheet 0 2 4").leaves("sheet 0 0 " + n, -2).leaves("sheet 0 2 " + n, -2);
        }
        for (String n : new String[] {"-1", "-40", "-41", "MIN"}) {
            run("44: -14: a size below 0", "sheet 0 2 4").leaves("sheet 0 0 " + n, -14).leaves("sheet 0 1 " + n, -14)
                .leaves("sheet 0 2 " + n, -14).leaves("sheet 3 2 " + n, -14);
        }
        for (int sort = 0; sort < 3; sort++) {
            run("44: a row of n").is("sheet 0 " + sort + " 40", 1).is("cell 0 39 1", 1).leaves("cell 0 40 1", -12)
                .is("sheet 0 " + sort + " 0", 1).leaves("cell 0 0 1", -12).is("sheet 0 " + sort + " 1", 1).is("cell 0 0 1", 1)
                .leaves("cell 0 1 1", -12);
        }
        run("44: SHEETS 0 .. 3, each by itself").is("sheet 3 2 1", 1).is("sheet 0 0 2", 1).leaves("cell 1 0 1", -11)
            .leaves("cell 2 0 1", -11).is("cell 3 0 1", 1).is("cell 0 1 1", 1).leaves("cell 3 1 1", -12)
            .is("sheet 3 -1 0", 1).leaves("cell 3 0 1", -11).is("cell 0 1 1", 1);
    }

    private static void sheetBecomesMissingOrNew() {
        for (String n : new String[] {"0", "40", "41", "-1", "MIN", "MAX"}) {
            run("44: missing (sort -1: n does not matter)", "sheet 0 2 4").is("sheet 0 -1 " + n, 1).leaves("cell 0 0 1", -11)
                .is("sheet 0 -1 " + n, 1).leaves("mapsBy 0 2 0 0", -11).leaves("copy 0 0 0 0 0", -11);
        }
        for (int sort = 0; sort < 3; sort++) {
            Run run = cells(run("44: all 0", "sheet 0 " + sort + " 8"), 0, 0, 2, 3, 4, 5, 4, 3, 2, 1);
            run.is("sheet 0 " + sort + " 8", 1).is("mapsBy 0 " + sort + " 0 2", 2);
            toldAs(run, 0, 0, 0, 0, 0);
            toldAs(run, 1, 0, 0, 0, 0);
        }
        Run less = cells(run("44: all 0, where a longer row stood", "sheet 0 2 40"), 0, 36, 2, 3, 4, 5);
        less.is("sheet 0 2 4", 1).is("sheet 0 2 40", 1).is("mapsBy 0 2 36 1", 1);
        toldAs(less, 0, 0, 0, 0, 0);
        Run missing = cells(run("44: all 0, where a row stood and went", "sheet 0 2 4"), 0, 0, 2, 3, 4, 5);
        missing.is("sheet 0 -1 0", 1).is("sheet 0 2 4", 1).is("mapsBy 0 2 0 1", 1);
        toldAs(missing, 0, 0, 0, 0, 0);
    }

    // ---- promise 45

    private static void cellTakesItsNumbers() {
        for (String s : NO_SHEETS) {
            run("45: BAD: SHEET", "sheet 0 2 4").leaves("cell " + s + " 0 0", -2).leaves("cell " + s + " -1 0", -2);
        }
        run("45: -11: nothing there, ahead of -12").leaves("cell 0 0 0", -11).leaves("cell 3 -1 0", -11)
            .leaves("cell 0 40 0", -11).leaves("cell 0 MIN 0", -11).leaves("cell 0 MAX 0", -11);
        for (int sort = 0; sort < 3; sort++) {
            Run run = run("45: -12: a place outside", "sheet 1 " + sort + " 4", "cell 1 0 3");
            for (String i : new String[] {"-1", "4", "39", "40", "MIN", "MAX"}) {
                run.leaves("cell 1 " + i + " 2", -12);
            }
            run.is("cell 1 0 MAX", 1).is("cell 1 3 MIN", 1);
        }
    }

    private static void numbersKeepTheirLowestBits() {
        String sentence = "45: of bytes its lowest 8 bits";
        toldAs(cells(run(sentence, "sheet 0 0 4"), 0, 0, 258, 512 + 63, -256 + 5, 65536 + 9).is("mapsBy 0 0 0 1", 1), 0,
            2, 63, 5, 9);
        toldAs(cells(run("45: of shorts its lowest 16 bits", "sheet 0 1 4"), 0, 0, 65536 + 2, 131072 + 63, -65536 + 5, 1 << 30)
            .is("mapsBy 0 1 0 1", 1), 0, 2, 63, 5, 0);
        cells(run("45: of shorts more than 8 bits", "sheet 0 1 4"), 0, 0, 0, 256, 0, 0).is("mapsBy 0 1 0 1", 0);
        cells(run("45: of ints all bits", "sheet 0 2 4"), 0, 0, 0, 65536, 0, 0).is("mapsBy 0 2 0 1", 0);
        cells(run("45: of ints all bits", "sheet 0 2 4"), 0, 0, 0, 1 << 31, 0, 0).is("mapsBy 0 2 0 1", 0);
        toldAs(cells(run("45: shorts up to 511", "town 9", "sheet 0 1 4"), 0, 0, 5, 511, 256, 9).is("mapsBy 0 1 0 1", 1), 0,
            5, 511, 256, 9);
        toldAs(cells(run("45: a byte's greatest number is 127", "town 9", "sheet 0 0 4"), 0, 0, 0, 127, 127, 0)
            .is("mapsBy 0 0 0 1", 1), 0, 0, 127, 127, 0);
        cells(run("45: a byte from 128 on is below 0", "town 9", "sheet 0 0 4"), 0, 0, 0, 128, 0, 0).is("mapsBy 0 0 0 1", 0)
            .is("cell 0 1 255", 1).is("mapsBy 0 0 0 1", 0).is("cell 0 1 256", 1).is("mapsBy 0 0 0 1", 1);
        toldAs(cells(run("45: MIN and MAX", "sheet 0 0 4"), 0, 0, Integer.MIN_VALUE, Integer.MIN_VALUE + 7, 0, 0)
            .is("mapsBy 0 0 0 1", 1), 0, 0, 7, 0, 0);
        cells(run("45: MIN and MAX", "sheet 0 0 4"), 0, 0, Integer.MAX_VALUE, 0, 0, 0).is("mapsBy 0 0 0 1", 0);
    }

    // ---- promise 46

    private static void copyTakesItsNumbers() {
        for (String s : NO_SHEETS) {
            run("46: BAD: SHEETS", "sheet 0 2 4").leaves("copy " + s + " 0 0 0 0", -2).leaves("copy 0 0 " + s + " 0 0", -2)
                .leaves("copy " + s + " 0 1 0 -1", -2).leaves("copy 1 0 " + s + " -1 0", -2)
                .leaves("copy " + s + " 0 " + s + " 0 0", -2);
        }
        run("46: -11: nothing there, ahead of -13 and -12", "sheet 0 2 4").leaves("copy 0 0 1 0 1", -11)
            .leaves("copy 1 0 0 0 1", -11).leaves("copy 1 0 1 0 1", -11).leaves("copy 2 0 3 0 0", -11)
            .leaves("copy 0 -1 1 0 1", -11).leaves("copy 1 0 0 0 -1", -11).leaves("copy 0 9 1 9 9", -11);
        run("46: -13: unlike sorts, ahead of -12", "sheet 0 0 4", "sheet 1 1 4", "sheet 2 2 4").leaves("copy 0 0 1 0 1", -13)
            .leaves("copy 1 0 0 0 1", -13).leaves("copy 1 0 2 0 0", -13).leaves("copy 2 0 0 0 0", -13)
            .leaves("copy 0 -1 1 0 1", -13).leaves("copy 0 0 2 9 1", -13).leaves("copy 2 0 1 0 -1", -13)
            .leaves("copy 0 0 2 0 MAX", -13);
        Run run = cells(run("46: -12: a place outside (n below 0, too)", "sheet 0 2 6", "sheet 1 2 4"), 0, 0, 2, 3, 4, 5, 0, 2);
        String[] outside = {"0 -1 1 0 1", "0 0 1 -1 1", "0 0 1 0 -1", "0 0 1 0 5", "0 3 1 0 4", "0 6 1 0 1", "0 0 1 4 1",
            "0 7 1 0 0", "0 0 1 5 0", "0 -1 1 0 0", "0 0 1 -1 0", "0 MIN 1 0 1", "0 MAX 1 0 1", "0 0 1 MIN 1", "0 0 1 MAX 1",
            "0 0 1 0 MIN", "0 0 1 0 MAX", "0 MAX 1 MAX MAX", "0 1 1 1 MAX", "0 MIN 1 MIN MIN", "0 1 0 0 6", "0 0 0 1 6",
            "0 0 0 0 7", "1 0 0 0 5", "1 1 0 0 4", "0 -2 1 0 4", "0 MAX 1 0 0", "0 0 1 MIN 0"};
        for (String o : outside) {
            run.leaves("copy " + o, -12);
        }
        run.leaves("copy 0 6 1 4 0", 0).leaves("copy 0 0 1 0 0", 0).leaves("copy 0 6 0 0 0", 0).is("copy 0 2 1 0 4", 4)
            .is("copy 0 0 0 0 6", 6);
    }

    private static void copyTakesThemAsTheyWere() {
        Run on = cells(run("46: its own place, as they were: further on", "sheet 0 2 40"), 0, 0, 2, 3, 4, 5);
        toldAs(on.is("copy 0 0 0 1 4", 4).is("mapsBy 0 2 1 1", 1), 0, 2, 3, 4, 5);
        Run back = cells(run("46: its own place, as they were: further back", "sheet 0 0 8"), 0, 4, 2, 3, 4, 5);
        toldAs(back.is("copy 0 4 0 3 4", 4).is("mapsBy 0 0 3 1", 1), 0, 2, 3, 4, 5);
        Run last = cells(run("46: to the last place", "sheet 0 1 40", "sheet 3 1 40"), 0, 0, 5, 4, 3, 2);
        toldAs(last.is("copy 0 0 3 36 4", 4).leaves("copy 0 0 3 37 4", -12).is("mapsBy 3 1 36 1", 1), 0, 5, 4, 3, 2);
        Run whole = cells(run("46: 40 numbers", "sheet 0 0 40", "sheet 1 0 40"), 0, 36, 4, 7, 0, 9);
        toldAs(whole.is("copy 0 0 1 0 40", 40).leaves("copy 0 0 1 0 41", -12).is("mapsBy 1 0 36 1", 1), 0, 4, 7, 0, 9);
        Run own = cells(run("46: what is copied is not bound to it", "sheet 0 2 4", "sheet 1 2 4"), 0, 0, 4, 7, 0, 9);
        toldAs(own.is("copy 0 0 1 0 4", 4).is("cell 0 1 63", 1).is("sheet 0 -1 0", 1).is("mapsBy 1 2 0 1", 1), 0, 4, 7, 0, 9);
        Run rest = cells(run("46: what lies around stays", "sheet 0 2 4", "sheet 1 2 4"), 0, 0, 4, 7, 5, 9);
        cells(rest, 1, 0, 3, 2, 1, 2);
        toldAs(rest.is("copy 0 1 1 1 2", 2).is("mapsBy 1 2 0 1", 1), 0, 3, 7, 5, 2);
    }

    // ---- promise 47

    private static void mapsByTakesItsNumbers() {
        for (String s : NO_SHEETS) {
            run("47: BAD: SHEET", "sheet 0 2 4").leaves("mapsBy " + s + " 2 0 1", -2).leaves("mapsBy " + s + " 0 -1 1", -2);
        }
        for (String sort : new String[] {"-1", "3", "-2", "MIN", "MAX"}) {
            run("47: BAD: sort", "sheet 0 2 4").leaves("mapsBy 0 " + sort + " 0 1", -2).leaves("mapsBy 1 " + sort + " 0 1", -2);
        }
        for (String n : new String[] {"-1", "9", "MIN", "MAX"}) {
            run("47: BAD: n 0 .. 8", "sheet 0 2 40").leaves("mapsBy 0 2 0 " + n, -2).leaves("mapsBy 1 2 0 " + n, -2)
                .leaves("mapsBy 0 1 0 " + n, -2).leaves("mapsBy 0 2 -1 " + n, -2);
        }
        run("47: -11: nothing there", "sheet 0 2 4").leaves("mapsBy 1 2 0 1", -11).leaves("mapsBy 1 0 -1 1", -11)
            .leaves("mapsBy 3 1 0 0", -11).leaves("mapsBy 2 1 MAX 8", -11);
        run("47: -13: of another sort", "sheet 0 0 4", "sheet 1 1 4", "sheet 2 2 4").leaves("mapsBy 0 1 0 1", -13)
            .leaves("mapsBy 0 2 0 1", -13).leaves("mapsBy 1 0 0 1", -13).leaves("mapsBy 1 2 0 0", -13)
            .leaves("mapsBy 2 0 -1 1", -13).leaves("mapsBy 2 1 MAX 8", -13);
        Run run = run("47: -12: a place outside", "sheet 0 2 8", "map 0 0 0 0");
        for (String at : new String[] {"-1", "-4", "5", "8", "40", "MIN", "MAX", "2147483640", "-2147483644"}) {
            run.leaves("mapsBy 0 2 " + at + " 1", -12).leaves("mapsBy 0 2 " + at + " 8", -12);
        }
        run("47: -12 of a row of none, of three", "sheet 0 0 0", "sheet 1 0 3").leaves("mapsBy 0 0 0 1", -12)
            .leaves("mapsBy 1 0 0 1", -12).leaves("mapsBy 0 0 0 0", 0).leaves("mapsBy 1 0 0 0", 0);
        run("47: n 0", "sheet 0 2 8").leaves("mapsBy 0 2 0 0", 0).is("count 1", 0);
    }

    private static void mapsComeFourByFour() {
        String sentence = "47: four by four, from a place on";
        for (int sort = 0; sort < 3; sort++) {
            Run run = cells(run(sentence, "sheet 0 " + sort + " 13"), 0, 0, 63, 0, 1, 2, 3, 2, 4, 5, 6, 5, 7, 8, 9);
            run.is("mapsBy 0 " + sort + " 1 3", 3);
            toldAs(run, 0, 0, 1, 2, 3);
            toldAs(run, 1, 2, 4, 5, 6);
            toldAs(run, 2, 5, 7, 8, 9);
            run.is("told 2 4", 1).is("count 1", 3);
        }
        run("47: to the last place of 40", "sheet 0 2 40").is("mapsBy 0 2 36 1", 1).is("mapsBy 0 2 37 1", -12)
            .is("count 1", 1).is("mapsBy 0 2 8 7", 7).is("count 1", 8);
        run("47: eight at once", "sheet 0 2 32").is("mapsBy 0 2 0 8", 8).is("count 1", 8);
        Run copies = cells(run("47: as of map(): a COPY of one that came just ahead", "sheet 0 2 12"), 0, 0, 0, 1, 0, 0, 1, 3,
            0, 0, 1, 2, 0, 1);
        copies.is("mapsBy 0 2 0 3", 3);
        toldAs(copies, 2, 1, 2, 0, 1);
    }

    private static void othersAreLeftOut() {
        String sentence = "47: how many came (others are left out)";
        Run run = cells(run(sentence, "sheet 0 2 32"), 0, 0, 1, 0, 0, 0, 6, 0, 0, 0, 0, 64, 0, 0, 0, 0, 64, 0, 0, 0, 0, 10,
            -1, 0, 0, 0, 0, -1, 0, 0, 5, 63, 63, 9);
        run.is("mapsBy 0 2 0 8", 1).is("count 1", 1);
        toldAs(run, 0, 5, 63, 63, 9);
        run("47: FULL ones are left out", "sheet 0 2 32", "map 0 1 0 0", "map 0 2 0 0", "map 0 3 0 0").is("mapsBy 0 2 0 8", 5)
            .is("count 1", 8).is("mapsBy 0 2 0 8", 0).is("told 2 1", 3).is("told 7 1", 0);
        sentence = "47: -12: what stood ahead came";
        run(sentence, "sheet 0 2 11").is("mapsBy 0 2 0 3", -12).is("count 1", 2).is("mapsBy 0 2 4 8", -12).is("count 1", 3)
            .is("mapsBy 0 2 8 1", -12).is("count 1", 3);
        Run part = cells(run(sentence, "sheet 0 1 8"), 0, 0, 6, 0, 0, 0, 2, 7, 0, 0);
        toldAs(part.is("mapsBy 0 1 0 3", -12).is("count 1", 1), 0, 2, 7, 0, 0);
        run("47: -12, though there can be no more MAPS", "sheet 0 2 32", "mapsBy 0 2 0 8").leaves("mapsBy 0 2 4 8", -12)
            .leaves("mapsBy 0 2 0 8", 0);
        run("47: -12 of a place below 0: nothing stood ahead", "sheet 0 2 32").leaves("mapsBy 0 2 -4 8", -12).is("count 1", 0);
    }

    // ---- promise 48

    private static void takenTakesItsNumbers() {
        String[] first = {"street 0 1 -1 7", "map 3 0 0 0"};
        for (String kind : new String[] {"-1", "7", "MIN", "MAX"}) {
            run("48: BAD: kind", first).leaves("taken 0 " + kind, -2).leaves("taken 12 " + kind, -2)
                .leaves("taken -1 " + kind, -2).leaves("taken 20 " + kind, -2).leaves("taken 5 " + kind, -2);
        }
        for (String i : new String[] {"-1", "20", "MIN", "MAX"}) {
            for (int kind = 0; kind <= 6; kind++) {
                run("48: -12: i", first).leaves("taken " + i + " " + kind, -12);
            }
        }
        for (int kind = 0; kind <= 6; kind++) {
            run("48: -11: nothing lies there, ahead of -13", first).leaves("taken 1 " + kind, -11).leaves("taken 11 " + kind, -11)
                .leaves("taken 13 " + kind, -11).leaves("taken 19 " + kind, -11).does("drop").leaves("taken 12 " + kind, -11);
            boolean fits = kind == 0 || kind == 2 || kind == 3;
            run("48: -13: of another KIND", first).leaves("taken 0 " + kind, kind == 6 ? 7 : -13)
                .leaves("taken 12 " + kind, fits ? 0 : -13);
        }
    }

    private static void takenTellsNumbers() {
        for (int kind = 0; kind < 6; kind++) {
            Run run = run("48: a MAP of that KIND (also of one that is one)", "map 0 0 0 0", "map " + kind + " 5 6 0");
            for (int as = 0; as <= 6; as++) {
                boolean fits = as == 0 || as == kind || as == 2 && kind == 3;
                run.leaves("taken 13 " + as, fits ? 1 : -13);
            }
        }
        Run full = run("48: 0 .. 11 STREETS, 12 .. 19 MAPS");
        for (int s = 0; s < 12; s++) {
            full.does("street 0 1 -1 " + (99 - s));
        }
        for (int m = 0; m < 8; m++) {
            full.does("map 4 0 0 0");
        }
        for (int i = 0; i < 20; i++) {
            full.leaves("taken " + i + " 6", i < 12 ? 99 - i : -13).leaves("taken " + i + " 4", i < 12 ? -13 : i - 12);
        }
    }

    public static void main(String[] args) {
        sheetTakesItsNumbers();
        sheetBecomesMissingOrNew();
        cellTakesItsNumbers();
        numbersKeepTheirLowestBits();
        copyTakesItsNumbers();
        copyTakesThemAsTheyWere();
        mapsByTakesItsNumbers();
        mapsComeFourByFour();
        othersAreLeftOut();
        takenTakesItsNumbers();
        takenTellsNumbers();
        due.end();
    }
}
