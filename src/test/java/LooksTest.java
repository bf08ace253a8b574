/** Promises 29 to 32: how many maps are enough, where to look, how often. */
public final class LooksTest {
    private static final Due due = new Due("LooksTest");

    private static EveryMapWrong town(int n, String may) {
        EveryMapWrong x = new EveryMapWrong();
        x.town(n);
        Tape.law(x, "may " + may + ";harm far;price 1;");
        return x;
    }

    private static void promise29Enough() {
        EveryMapWrong x = town(3, "1");
        due.is("enough without maps", x.enough(0), -1);
        x.map(0, 6, 0, 0);
        x.map(2, 0, 0, 0);
        due.is("enough(0) by both: not so", x.enough(0), 3);
        due.is("enough(1) by none", x.enough(1), -1);
        due.is("enough(3)", x.enough(3), -5);
        due.is("enough(-1)", x.enough(-1), -5);
        x.map(2, 0, 0, 0);
        due.is("enough(0), the least of like ones", x.enough(0), 3);
        x.look(1, 0);
        due.is("enough(1) by what was seen", x.enough(1), 0);
        due.is("enough(2) by a map: so", x.enough(2), 1);
        x.look(2, 0);
        due.is("enough without worlds", x.enough(0), -3);
        due.is("enough(3) without worlds", x.enough(3), -5);
        EveryMapWrong y = town(3, "a and not b");
        due.is("enough(0) by the law", y.enough(0), 0);
        due.is("enough(1) by the law", y.enough(1), 0);
        due.is("enough(2) by the law", y.enough(2), -1);
        y.map(4, 1, 0, 2);
        y.map(4, 1, 0, 0);
        y.map(4, 1, 0, 9);
        due.is("enough(2), all maps together leave it open", y.enough(2), -1);
        y.map(3, 0, 5, 0);
        due.is("enough(2) by the last map alone", y.enough(2), 8);
    }

    private static void promise30Many() {
        EveryMapWrong x = town(3, "1");
        due.is("many without maps", x.many(), 0);
        x.map(4, 0, 0, 9);
        due.is("many by a map that tells nothing", x.many(), 0);
        x.map(0, 6, 0, 0);
        x.map(0, 6, 0, 0);
        due.is("many, the least of like ones", x.many(), 2);
        x.map(2, 7, 0, 0);
        due.is("many by a map that tells more", x.many(), 10);
        x.map(0, 5, 0, 0);
        due.is("many by the least of two pairs", x.many(), 10);
        Tape.law(x, "may 0;harm 1;price 1;");
        due.is("many without worlds", x.many(), 0);
    }

    private static void promise31Next() {
        EveryMapWrong x = town(3, "a + b + c = 1");
        due.is("next(0), the first of like ones", x.next(0), 0);
        due.is("next(1)", x.next(1), 2);
        due.is("next(2)", x.next(2), -2);
        due.is("next(-1)", x.next(-1), -2);
        x.look(0, 1);
        due.is("next(0) of one world", x.next(0), -1);
        due.is("next(1) of one world", x.next(1), 1);
        x.look(1, 1);
        due.is("next(0) without worlds", x.next(0), -3);
        due.is("next(2) without worlds", x.next(2), -2);
        EveryMapWrong y = town(3, "a and b");
        due.is("next(0) by the last choice", y.next(0), 2);
        due.is("next(1) by the last choice", y.next(1), 1);
        EveryMapWrong z = town(3, "a or b and c");
        due.is("next(0), b tells more than a", z.next(0), 1);
        due.is("next(1), b tells more than a", z.next(1), 3);
        EveryMapWrong w = town(9, "1");
        due.is("next(1) of 512 worlds", w.next(1), 256);
    }

    private static void promise32Looks() {
        due.is("looks, one world", town(3, "a and b and c").looks(), 0);
        due.is("looks, two worlds", town(3, "a and b").looks(), 1);
        due.is("looks, three worlds", town(3, "a + b + c = 1").looks(), 2);
        due.is("looks, four worlds", town(2, "1").looks(), 2);
        due.is("looks, five worlds", town(3, "a or b and c").looks(), 3);
        due.is("looks, five worlds in a row", town(4, "a+b+c+d=1 or not (a or b or c or d)").looks(), 4);
        due.is("looks, seven worlds", town(3, "a or b or c").looks(), 3);
        due.is("looks, eight worlds", town(3, "1").looks(), -3);
        due.is("looks, no worlds", town(3, "0").looks(), -3);
        EveryMapWrong x = town(9, "1");
        x.map(2, 511, 0, 0);
        due.is("looks, ten worlds", x.looks(), -3);
        x.look(8, 1);
        x.look(7, 1);
        x.look(6, 1);
        due.is("looks, seven worlds, all but one of them a slip", x.looks(), 6);
        // The choice that parts the worlds best (d: 3 and 3) is no better at last than another.
        EveryMapWrong y = town(4, "d = 0 and a+b+c = 1 or d and a+b+c = 2");
        due.is("looks, six worlds", y.looks(), 3);
    }

    public static void main(String[] args) {
        promise29Enough();
        promise30Many();
        promise31Next();
        promise32Looks();
        due.end();
    }
}
