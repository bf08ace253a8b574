/** Each sentence on the town, THE TAPE, TEXTS and THE LAW that names a boundary (promises 1 to 7 and their terms). */
public final class TownEdgesTest {
    private static final Due due = new Due("TownEdgesTest");
    private static final String SIX_TEXTS = "may 1;harm 1;price 1;";

    private static Run run(String sentence, String... first) {
        return Run.of(due, sentence, first);
    }

    private static String times(int many, String text) {
        StringBuilder all = new StringBuilder();
        for (int i = 0; i < many; i++) {
            all.append(text);
        }
        return all.toString();
    }

    // ---- promise 1

    private static void newObject() {
        run("1: 6 CHOICES").is("count 0", 6).leaves("may 63", 1).leaves("may 64", -2).leaves("look 5 2", -7)
            .leaves("look 6 1", -5).is("look 5 1", -1);
        run("1: no MAPS").is("count 1", 0).leaves("drop", -3).leaves("told 0 0", -5).leaves("worlds 1", -2)
            .leaves("taken 12 0", -11).is("map 0 0 0 0", 0);
        run("1: no STREETS").is("count 2", 0).leaves("taken 0 6", -11).leaves("way 1 63", -1).is("street 0 1 -1 1", 0);
        run("1: no GOERS").is("count 3", 0).leaves("trick 0 0 0", -5).is("goer 0", 0);
        run("Terms: TEXT 0, at first").is("count 4", 1).leaves("force 1", -2).is("force 0", 0).is("read " + SIX_TEXTS, 1);
        run("Terms: TEXT 0 is THE LAW at first").is("count 5", 0).leaves("may 0", 1).leaves("worlds 0", 64);
        run("Terms: the first law's price is 3 + worlds", "map 2 0 0 0").leaves("worth 0", 3 + 64 - 7);
        run("Terms: the first law's harm is far", "street 0 1 0 1", "street 0 1 -1 8", "goer 1").leaves("harm 1 0", 7)
            .leaves("harm 1 1", 0);
        run("Terms: SEEN, none at first").is("count 7", 0).is("count 8", 0).is("look 0 -1", -1);
        run("Terms: THE TAPE has nothing at first").is("count 6", 0).leaves("text", -100);
        run("43: there is no IMAGE at first").leaves("back", -3);
        for (int s = 0; s < 4; s++) {
            run("Terms: SHEETS are missing at first").leaves("cell " + s + " 0 0", -11).is("sheet " + s + " 0 1", 1)
                .is("cell " + s + " 0 0", 1);
        }
    }

    private static void lastCallOfAnObject() {
        Run run = run("What it is: an object is used for at most 512 calls", "town 9", "map 2 0 0 0", "street 0 1 -1 7");
        for (int calls = 4; calls <= 510; calls++) {
            run.is("look " + calls % 9 + " -1", -1);
        }
        run.is("worlds 1", 10).is("soon 1", -3);
    }

    private static void objectsHaveNothingInCommon() {
        Run one = run("1: a new object, whatever another one has", "town 9", "law may a;harm 1;price 1;", "tape may",
            "sheet 0 0 4", "look 0 1", "goer 1", "image", "map 0 0 0 0", "street 0 1 -1 1");
        newObject();
        one.is("count 0", 9).is("count 1", 1).is("count 2", 1).is("count 3", 1).is("count 4", 2).is("count 5", 1)
            .is("count 6", 3).is("count 7", 1).is("count 8", 1).is("cell 0 3 0", 1).is("back", 0);
    }

    // ---- promise 2

    private static void townTakesOneToNine() {
        String sentence = "2: n 1 .. 9, else BAD";
        for (String n : new String[] {"0", "10", "-1", "MIN", "MAX", "32", "33", "257"}) {
            run(sentence, "look 3 1", "image").leaves("town " + n, -2).is("count 0", 6);
        }
        run(sentence).is("town 1", 6).is("town 9", 1).is("town 1", 9).is("count 0", 1);
    }

    private static void townsHaveSoManyChoices() {
        String sentence = "Terms: CHOICES are 0 .. n less 1";
        for (int n = 1; n <= 9; n++) {
            int all = (1 << n) - 1;
            run(sentence, "town " + n).leaves("worlds 0", all + 1).leaves("may " + all, 1).leaves("may " + (all + 1), -2)
                .leaves("enough " + n, -5).leaves("enough " + (n - 1), -1).leaves("look " + n + " 1", -5)
                .leaves("map 0 " + (all + 1) + " 0 0", -2).leaves("map 0 0 " + (all + 1) + " 0", -2)
                .is("map 0 " + all + " " + all + " 0", 0).leaves("street 0 1 " + n + " 1", -2)
                .is("street 0 1 " + (n - 1) + " 1", 0).leaves("harm 0 " + n, -5).leaves("harm 0 " + (n - 1), 0);
        }
    }

    private static void townTellsHowManyThereWere() {
        run("2: how many there were").is("town 3", 6).is("town 3", 3).is("town 8", 3).is("town 1", 8);
    }

    private static void townForgetsWhatWasSeen() {
        run("2: nothing is SEEN", "look 0 1", "look 5 0").is("count 7", 33).is("town 6", 6).is("count 7", 0).is("count 8", 0)
            .is("look 0 -1", -1);
        run("2: nothing is SEEN of a choice that comes again", "town 9", "look 8 1", "town 2", "town 9").is("count 7", 0)
            .leaves("worlds 0", 512);
    }

    private static void townForgetsTheImage() {
        run("2: there is no IMAGE", "image").is("back", 0).is("town 6", 6).leaves("back", -3).is("image", 0).is("back", 0);
    }

    private static void townLeavesTheRest() {
        run("2: THE LAW, TEXTS, GOERS, THE TAPE, SHEETS stay", "law may a;harm 1;price 1;", "goer 12", "tape may",
            "sheet 2 1 7").is("town 4", 6).is("count 5", 1).is("count 4", 2).is("count 3", 1).is("count 6", 3)
            .is("cell 2 6 1", 1).leaves("may 0", 0).leaves("worlds 0", 8);
    }

    private static void townIsRefusedBesideMapsAndStreets() {
        String sentence = "2: STATE: there are MAPS, STREETS";
        run(sentence, "look 2 1", "image", "map 0 0 0 0").leaves("town 6", -3).leaves("town 9", -3).leaves("town 1", -3)
            .leaves("town 0", -2).leaves("town 10", -2).leaves("town MIN", -2).leaves("town MAX", -2)
            .does("drop").is("town 9", 6);
        run(sentence, "look 2 1", "image", "street 0 1 -1 1").leaves("town 6", -3).leaves("town 0", -2)
            .leaves("town 10", -2);
        run(sentence, "street 0 1 -1 1", "map 0 0 0 0").leaves("town 6", -3).does("drop").leaves("town 6", -3);
        run("2: no STATE by GOERS, TEXTS, what was SEEN", "goer 0", "read " + SIX_TEXTS, "look 0 0").is("town 6", 6);
    }

    // ---- promise 3

    private static void countKnowsNineNumbers() {
        for (String what : new String[] {"-1", "9", "MIN", "MAX"}) {
            run("3: what 0 .. 8, else BAD", "map 0 0 0 0").leaves("count " + what, -2);
        }
        Run full = run("3: what is counted, all as many as there can be", "town 9");
        for (int i = 0; i < 12; i++) {
            full.does(i < 8 ? "map 0 0 0 0" : "image", "street 0 1 -1 1", i < 6 ? "goer 0" : "image",
                i < 5 ? "read " + SIX_TEXTS : "image", i < 9 ? "look " + i + " 1" : "image");
        }
        full.does("tape " + times(160, "x"), "force 5");
        int[] counts = {9, 8, 12, 6, 6, 5, 160, 511, 511};
        for (int what = 0; what < counts.length; what++) {
            full.leaves("count " + what, counts[what]);
        }
        run("3: 7 CHOICES that were SEEN, 8 those of them that are so", "look 0 0", "look 5 1").is("count 7", 33)
            .is("count 8", 32).does("look 5 0").is("count 7", 33).is("count 8", 0).does("look 5 -1").is("count 7", 1);
    }

    // ---- promise 4

    private static void feedTakesOneToEight() {
        String sentence = "4: BAD: n not 1 .. 8";
        for (String n : new String[] {"0", "9", "-1", "-8", "MIN", "MAX", "257"}) {
            run(sentence, "tape may a;harm b;price c").leaves("feed 59 " + n, -2);
        }
        run(sentence).is("feed 0 1", 1).is("feed 0 8", 9).is("feed 0 2", 11);
    }

    private static void feedTakesTheLowestBytesTheHighestFirst() {
        String sentence = "4: the n lowest bytes of w, the highest first";
        run(sentence).is("feed 0x6d617920613b6861 8", 8).is("feed 0x787878726d20623b 5", 13)
            .is("feed 0x7072696365206300 8", 21).is("text", -120);
        run(sentence).is("feed 0x6d617920613b6861 8", 8).is("feed 0x787878726d20623b 5", 13)
            .is("feed 0x70726963652063 7", 20).is("feed 0x7f3b 1", 21).is("text", 1).is("force 1", 0).leaves("may 1", 1)
            .leaves("may 2", 0);
        run("4: a w below 0").is("feed -1 8", 8).is("feed -0x8000000000000000 8", 16).is("text", -100);
        // 0x..3b: a w below 0 of which only the lowest byte counts.
        run("4: a w below 0", "tape may a;harm b;price c").is("feed -197 1", 21).is("text", 1);
    }

    private static void theTapeHoldsOneHundredAndSixty() {
        String sentence = "4: FULL: 160 bytes at most";
        run(sentence, "tape " + times(152, "x")).is("feed 0 8", 160).leaves("feed 0 1", -4).leaves("feed 0 8", -4)
            .leaves("feed 0 0", -2).leaves("feed 0 9", -2).leaves("feed 0 MIN", -2).leaves("feed 0 MAX", -2);
        run(sentence, "tape " + times(153, "x")).leaves("feed 0 8", -4).is("feed 0 7", 160);
        run(sentence, "tape " + times(159, "x")).leaves("feed 0 2", -4).is("feed 0 1", 160).leaves("feed 0 1", -4);
        run("5: THE TAPE is empty then, also by a FAULT", "tape " + times(160, "x")).is("text", -100).is("count 6", 0)
            .is("tape " + times(160, " "), 160).leaves("feed 32 1", -4).is("text", -260);
        run("5: THE TAPE is empty then", "read " + SIX_TEXTS).is("count 6", 0).is("feed 32 8", 8);
    }

    // ---- promise 5

    private static void sixTextsAtMost() {
        Run run = run("5: TEXTS are numbered from 0 on, 6 at most");
        for (int t = 1; t < 6; t++) {
            run.is("read " + SIX_TEXTS, t).is("count 4", t + 1).is("count 6", 0);
        }
        run.leaves("text", -4).does("tape may 1;harm 1;price 1").is("count 6", 20);
        run.leaves("text", -4).is("count 6", 20).is("feed 59 1", 21).leaves("text", -4).is("count 6", 21)
            .is("count 4", 6).is("force 5", 0).leaves("force 6", -2);
    }

    private static void fullGoesAheadOfTheFault() {
        Run run = run("5: FULL ahead of the FAULT; then THE TAPE stays");
        for (int t = 1; t < 6; t++) {
            run.does("read " + SIX_TEXTS);
        }
        run.is("tape @", 1).leaves("text", -4).is("count 6", 1).is("tape " + times(159, "@"), 160).leaves("text", -4)
            .leaves("feed 64 1", -4);
    }

    private static void aFaultMakesNoText() {
        run("5: by a FAULT there is no TEXT, THE TAPE is empty", "law may a;harm 1;price 1;").is("read may b;harm 1;", -113)
            .is("count 4", 2).is("count 5", 1).is("count 6", 0).leaves("may 2", 0).leaves("may 1", 1)
            .is("read " + SIX_TEXTS, 2);
    }

    private static void faulty(String sentence, String text, int place) {
        run(sentence).is("read " + text, -100 - place).is("count 6", 0).is("count 4", 1).is("count 5", 0);
    }

    private static void fine(String sentence, String text) {
        run(sentence).is("read " + text, 1).is("count 6", 0).is("count 4", 2);
    }

    private static void aTextMayFillTheTape() {
        String text = "may a;harm b;price c;";
        fine("Terms: 160 bytes at most", text + times(160 - text.length(), " "));
        fine("Terms: 160 bytes at most", times(160 - text.length(), "\n") + text);
        fine("Terms: 160 bytes at most", "may " + times(69, "a+") + "a;harm 1;price 1; ");
        faulty("Terms: the last byte can be the fault", times(159, " ") + "x", 159);
        faulty("Terms: a text that ends too early on a full tape", times(157, " ") + "may", 160);
        faulty("Terms: a text that ends too early on a full tape", "may" + times(157, " "), 160);
    }

    private static void tokensAreAsLongAsCanBe() {
        String sentence = "Terms: TOKENS, each as long as can be";
        fine(sentence, "may1and 0or 2;harm(1);price 1;");
        fine(sentence, "may(a)and(b)or not(c);harm-1;price 1;");
        fine(sentence, "may 0012;harm 1;price 1;");
        faulty(sentence, "maya;harm 1;price 1;", 0);
        faulty(sentence, "may nota;harm 1;price 1;", 4);
        faulty(sentence, "may aorb;harm 1;price 1;", 4);
        faulty(sentence, "may a or not1b;harm 1;price 1;", 13);
        faulty(sentence, "may ab;harm 1;price 1;", 4);
        faulty(sentence, "may 1 23 4;harm 1;price 1;", 6);
        faulty(sentence, "may a1;harm 1;price 1;", 5);
        faulty(sentence, "may 1a;harm 1;price 1;", 5);
        faulty(sentence, "m ay 1;harm 1;price 1;", 0);
        faulty(sentence, "may w orlds;harm 1;price 1;", 4);
    }

    private static void numbersHaveFourDigitsAtMost() {
        String sentence = "Terms: NUMBERS, more than 4 digits are too long";
        fine(sentence, "may 9999;harm 0000;price 0;");
        faulty(sentence, "may 10000;harm 1;price 1;", 4);
        faulty(sentence, "may 00000;harm 1;price 1;", 4);
        faulty(sentence, "may 1+  123456789012345;harm 1;price 1;", 8);
        faulty(sentence, "may 1;harm 1;price 99999", 19);
        faulty("Terms: a NUMBER that is too long where none can stand", "may a 12345;harm 1;price 1;", 6);
        run("Terms: a NUMBER of four digits counts whole", "law may 9999 = 9998 + 1 and 1000 = 10*100;harm 1;price 1;")
            .is("may 0", 1);
    }

    private static void onlyTwoBytesAreBlanks() {
        String sentence = "Terms: blanks (32, 10) may stand between";
        fine(sentence, "\n may\n\n  a \n;\nharm \n b\n;price  c\n ;\n  ");
        for (char c = 0; c < 256; c++) {
            boolean blank = c == 32 || c == 10;
            boolean sign = "();+-*<=".indexOf(c) >= 0;
            boolean stands = blank || sign || c >= 'a' && c <= 'z' || c >= '0' && c <= '9';
            if (blank) {
                fine(sentence, "may" + c + "1;harm 1;price 1;" + c);
            } else if (!stands) {
                faulty("Terms: a byte that begins none", "may " + c + "1;harm 1;price 1;", 4);
                faulty("Terms: a byte that begins none", "may 1" + c + ";harm 1;price 1;", 5);
                faulty("Terms: a byte that begins none", "may 1;harm 1;price 1;" + c, 21);
            }
        }
    }

    private static void wordsAreKeysOrNames() {
        String sentence = "Terms: a WORD that is neither KEY nor NAME";
        for (String word : new String[] {"e", "z", "ab", "fa", "farr", "world", "worldss", "nots", "no", "an", "ands", "o",
            "orr", "mayy", "ma", "harms", "pric", "prices", "x", "aa", "az", "za", "worldsfar"}) {
            faulty(sentence, "may 1+ " + word + ";harm 1;price 1;", 7);
            faulty(sentence, "may 1 " + word + ";harm 1;price 1;", 6);
            faulty(sentence, "may not " + word + " a;harm 1;price 1;", 8);
            faulty(sentence, "may -" + word + " a;harm 1;price 1;", 5);
            faulty(sentence, "may(" + word + " a);harm 1;price 1;", 4);
            faulty(sentence, word + " 1;harm 1;price 1;", 0);
        }
        for (String name : new String[] {"a", "b", "c", "d", "far", "worlds"}) {
            fine("Terms: NAMES", "may " + name + ";harm " + name + ";price " + name + ";");
            faulty("Terms: a NAME where none can stand", "may 1 " + name + ";harm 1;price 1;", 6);
        }
        for (String key : new String[] {"may", "harm", "price", "or", "and"}) {
            faulty("Terms: a KEY where none can stand", "may " + key + " 1;harm 1;price 1;", 4);
        }
        for (String key : new String[] {"may", "harm", "price", "not"}) {
            faulty("Terms: a KEY where none can stand", "may a " + key + " b;harm 1;price 1;", 6);
        }
    }

    /** Each beginning of a text: cut behind a token it ends too early, cut in a word it has a word that is none. */
    private static void aTextCanEndTooEarly() {
        String sentence = "Terms: the text's size, if it ends too early";
        String[] tokens = {"may", "not", "(", "a", "<", "-", "b", ")", "and", "1", ";", "harm", "c", "*", "d", "=", "2", "-",
            "far", ";", "price", "worlds", "or", "7", "+", "8", ";"};
        StringBuilder text = new StringBuilder();
        for (int i = 0; i < tokens.length; i++) {
            faulty(sentence, text.toString(), text.length());
            faulty(sentence, text + " \n ", text.length() + 3);
            if (i > 0) {
                text.append(' ');
            }
            text.append(tokens[i]);
        }
        fine(sentence, text.toString());
        faulty("Terms: behind a text can stand nothing", text + ";", text.length());
        faulty("Terms: behind a text can stand nothing", text + " may 1;", text.length() + 1);
        faulty("Terms: behind a text can stand nothing", text + "1", text.length());
        faulty("Terms: a text that is cut in a word", "may 1;har", 6);
        faulty("Terms: a text that is cut in a word", "m", 0);
    }

    private static void fiveMayBeOpen() {
        String sentence = "Terms: a ( while 5 of these are open";
        fine(sentence, "may " + times(5, "(") + "1" + times(5, ")") + ";harm 1;price 1;");
        faulty(sentence, "may " + times(6, "(") + "1" + times(6, ")") + ";harm 1;price 1;", 9);
        fine("Terms: a ( till its )", "may (((((1)))))+(((((1)))));harm (((((1)))));price (((((1)*(1)))));");
        faulty("Terms: a ( till its )", "may (((((1)+(1)))+((1))));harm ((((((1;", 36);
        sentence = "Terms: a not while 5 of these are open";
        fine(sentence, "may " + times(5, "not ") + "1;harm 1;price 1;");
        faulty(sentence, "may " + times(6, "not ") + "1;harm 1;price 1;", 24);
        fine("Terms: not till what it belongs to ends", "may not not not not not a and not not not not not b or (1);harm 1;price 1;");
        faulty("Terms: not till what it belongs to ends", "may not not not not not a<(b);harm 1;price 1;", 26);
        faulty("Terms: not till what it belongs to ends", "may not not not not not a+-b;harm 1;price 1;", 26);
        fine("Terms: not till what it belongs to ends", "may not not not not not a-b<c;harm 1;price 1;");
        sentence = "Terms: a - ahead of a ONE while 5 of these are open";
        fine(sentence, "may -----1;harm 1;price 1;");
        faulty(sentence, "may ------1;harm 1;price 1;", 9);
        fine("Terms: - till what it belongs to ends", "may -----1------1*-----1<-----1 and(1);harm 1;price 1;");
        faulty("Terms: - till what it belongs to ends", "may -(-(-1));harm 1;price -(-(-(1)));", 31);
        fine("Terms: a - behind a ONE opens nothing", "may (((((1-1-1-1)))))-1;harm 1;price 1;");
        sentence = "Terms: a (, a not, a - are counted together";
        fine(sentence, "may not(-(not 1));harm not not-(-1);price -(-(-1));");
        faulty(sentence, "may not(-(not(1)));harm 1;price 1;", 13);
        faulty(sentence, "may not(-(not not 1));harm 1;price 1;", 14);
        faulty(sentence, "may -(-(--1));harm 1;price 1;", 9);
        faulty("Terms: none but ( not - counts", "may (((((a and b or c<d+1*2)))))+((((((1;", 38);
    }

    /** What can't stand there is told by its own place, not by what was open. */
    private static void theFirstTokenThatCantStandCounts() {
        String sentence = "Terms: the first TOKEN that can't stand there";
        faulty(sentence, "may @ 12345 xy ((((((;", 4);
        faulty(sentence, "may 12345 @ xy;", 4);
        faulty(sentence, "may xy @ 12345;", 4);
        faulty(sentence, "may 1;;harm 1;price 1;", 6);
        faulty(sentence, "may 1 harm 1;price 1;", 6);
        faulty(sentence, "may a<b<c;harm 1;price 1;", 7);
        faulty(sentence, "may a=b<c;harm 1;price 1;", 7);
        faulty(sentence, "may not a=b=c;harm 1;price 1;", 11);
        faulty(sentence, "may (a;harm 1;price 1;", 6);
        faulty(sentence, "may a);harm 1;price 1;", 5);
        faulty(sentence, "may a+;harm 1;price 1;", 6);
        faulty(sentence, "may *a;harm 1;price 1;", 4);
        faulty(sentence, "may a not;harm 1;price 1;", 6);
        faulty(sentence, "may - not a;harm 1;price 1;", 6);
        faulty(sentence, "may a+not b;harm 1;price 1;", 6);
        faulty(sentence, "may a*not b;harm 1;price 1;", 6);
        faulty(sentence, "may a=not b;harm 1;price 1;", 6);
        fine("Terms: a not may stand behind and, or, (, not", "may a and not b or not(not c)and not not d;harm 1;price 1;");
        fine("Terms: a comparison in ( ) is a ONE", "may (a<b)<(c=d);harm (a<b)=1;price not(a=b)=0;");
    }

    // ---- promise 6

    private static void forceTakesTextsThatThereAre() {
        String sentence = "6: BAD: no such TEXT";
        Run run = run(sentence, "read may a;harm 1;price 1;", "read may b;harm 1;price 1;").is("force 2", 0);
        for (String t : new String[] {"-1", "3", "6", "MIN", "MAX"}) {
            run.leaves("force " + t, -2).is("count 5", 2);
        }
        run.is("force 2", 2).is("force 1", 2).is("force 0", 1).is("count 5", 0);
    }

    // ---- promise 7

    private static void mayTakesTowns() {
        for (String t : new String[] {"64", "-1", "MIN", "MAX"}) {
            run("7: BAD: no TOWN").leaves("may " + t, -2);
        }
        run("7: MAPS and what was SEEN don't matter", "map 0 0 0 0", "look 0 1").leaves("may 0", 1).leaves("may 63", 1);
    }

    private static void allows(String sentence, String may, int... towns) {
        Run run = run(sentence, "town 4", "law may " + may + ";harm 1;price 1;");
        for (int t = 0; t < 16; t++) {
            int want = 0;
            for (int town : towns) {
                want |= t == town ? 1 : 0;
            }
            run.is("may " + t, want);
        }
    }

    private static void whatIsNotZeroIsTrue() {
        String sentence = "Terms: a TOWN MAY BE, if may of it isn't 0";
        allows(sentence, "a*2+b-3*c", 1, 2, 3, 4, 5, 6, 9, 10, 11, 12, 13, 14);
        allows(sentence, "a*b*c*d-1", 0, 1, 2, 3, 4, 5, 6, 7, 8, 9, 10, 11, 12, 13, 14);
        allows("Terms: what is not 0 is true", "not(a-b) and (2 and -1) and c*(0-5)", 4, 7, 12, 15);
        allows("Terms: or, and, not, <, = are 1 or 0", "(2 or 0)+(3 and 5)+(not 0)+(-1<0)+(7=7)=5 and a*b*c*d", 15);
        allows("Terms: or, and, not, <, = are 1 or 0", "(0 or 0)+(3 and 0)+(not 7)+(0<0)+(7=8)=0 and a*b*c*d", 15);
        allows("Terms: < not of like ones", "a<b or c<d and 0<0", 2, 6, 10, 14);
    }

    private static void intsWrap() {
        String sentence = "Terms: an int (32 bits, wrapping)";
        allows(sentence, "8192*8192*64 or a*b*c*d", 15);
        allows(sentence, "8192*8192*32<0 and a*b*c*d", 15);
        allows(sentence, "0<8192*8192*32-1 and a*b*c*d", 15);
        allows(sentence, "8192*8192*32-1+1<0 and a*b*c*d", 15);
        allows(sentence, "-(8192*8192*32)<0 and a*b*c*d", 15);
        allows(sentence, "8192*8192*32=-(8192*8192*32) and a*b*c*d", 15);
        allows(sentence, "9999*9999*9999<0 and a*b*c*d", 15);
        // 4000 times 4000 times 200 is 3200000000, as an int 3200000000 less 4294967296.
        allows(sentence, "4000*4000*200=-(1094*1000*1000+967*1000+296) and a*b*c*d", 15);
    }

    private static void namesThatAreNotToldAreZero() {
        allows("Terms: far, worlds as told, else 0", "far=0 and worlds=0 and a*b*c*d", 15);
        allows("Terms: far, worlds as told, else 0", "far or worlds");
        for (int n = 1; n <= 3; n++) {
            String none = n == 1 ? "not b and not c and not d" : n == 2 ? "not c and not d" : "not d";
            run("Terms: a b c d, 0 where there is none such", "town " + n, "law may " + none + ";harm 1;price 1;")
                .leaves("worlds 0", 1 << n).leaves("may " + ((1 << n) - 1), 1);
        }
        allows("Terms: a b c d are CHOICES 0 .. 3", "a+b*2+c*4+d*8=10", 10);
        run("Terms: a b c d are CHOICES 0 .. 3", "town 9", "law may d and not a;harm 1;price 1;").leaves("may 8", 1)
            .leaves("may 504", 1).leaves("may 505", 0).leaves("may 496", 0).leaves("worlds 0", 128);
    }

    private static void operatorsBindAsTold() {
        allows("Terms: E: AND { or AND }", "a or b and c", 1, 3, 5, 6, 7, 9, 11, 13, 14, 15);
        allows("Terms: AND: NOT { and NOT }", "not a and b", 2, 6, 10, 14);
        allows("Terms: not of SUM < SUM whole", "not a<b", 0, 1, 3, 4, 5, 7, 8, 9, 11, 12, 13, 15);
        allows("Terms: SUM of TERMS from the left", "5-2-3=0 and 5-2+3=6 and 2-3*4=-10 and a*b*c*d", 15);
        allows("Terms: - ONE binds most", "-2*-3=6 and -2+5=3 and -(2-5)=3 and 1--1=2 and a*b*c*d", 15);
    }

    public static void main(String[] args) {
        newObject();
        lastCallOfAnObject();
        objectsHaveNothingInCommon();
        townTakesOneToNine();
        townsHaveSoManyChoices();
        townTellsHowManyThereWere();
        townForgetsWhatWasSeen();
        townForgetsTheImage();
        townLeavesTheRest();
        townIsRefusedBesideMapsAndStreets();
        countKnowsNineNumbers();
        feedTakesOneToEight();
        feedTakesTheLowestBytesTheHighestFirst();
        theTapeHoldsOneHundredAndSixty();
        sixTextsAtMost();
        fullGoesAheadOfTheFault();
        aFaultMakesNoText();
        aTextMayFillTheTape();
        tokensAreAsLongAsCanBe();
        numbersHaveFourDigitsAtMost();
        onlyTwoBytesAreBlanks();
        wordsAreKeysOrNames();
        aTextCanEndTooEarly();
        fiveMayBeOpen();
        theFirstTokenThatCantStandCounts();
        forceTakesTextsThatThereAre();
        mayTakesTowns();
        whatIsNotZeroIsTrue();
        intsWrap();
        namesThatAreNotToldAreZero();
        operatorsBindAsTold();
        due.end();
    }
}
