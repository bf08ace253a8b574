/** Promises 14 to 18: the towns that are left. */
public final class WorldsTest {
    private static final Due due = new Due("WorldsTest");

    /** Three choices; map 0 leaves 2 4 7 (or 1 choice away from 6), map 1 leaves 1 2 4 0. */
    private static EveryMapWrong threeChoices() {
        EveryMapWrong x = new EveryMapWrong();
        x.town(3);
        x.map(0, 6, 0, 0);
        x.map(2, 0, 0, 0);
        return x;
    }

    private static void promise14Worlds() {
        EveryMapWrong x = threeChoices();
        due.is("worlds(0)", x.worlds(0), 8);
        due.is("worlds(1)", x.worlds(1), 3);
        due.is("worlds(2)", x.worlds(2), 4);
        due.is("worlds(3)", x.worlds(3), 2);
        due.is("worlds(4)", x.worlds(4), -2);
        due.is("worlds(-1)", x.worlds(-1), -2);
        x.look(1, 1);
        due.is("worlds(0) after a look", x.worlds(0), 4);
        due.is("worlds(3) after a look", x.worlds(3), 1);
        Tape.law(x, "may not b;harm 1;price 1;");
        due.is("worlds(0) by another law", x.worlds(0), 0);
        x.look(1, -1);
        due.is("worlds(0) by another law", x.worlds(0), 4);
        due.is("worlds(2) by another law", x.worlds(2), 3);
        due.is("worlds(0) of an empty town", new EveryMapWrong().worlds(1), -2);
    }

    private static void promise15World() {
        EveryMapWrong x = threeChoices();
        due.is("world(0)", x.world(0), 2);
        due.is("world(1)", x.world(1), 4);
        due.is("world(2)", x.world(2), -1);
        due.is("world(-1)", x.world(-1), -1);
        due.is("world(most)", x.world(Integer.MAX_VALUE), -1);
        EveryMapWrong y = new EveryMapWrong();
        y.town(9);
        for (int k = 0; k < 512; k++) {
            due.is("world(" + k + ") without maps", y.world(k), k);
        }
    }

    private static void promise16Sure() {
        EveryMapWrong x = threeChoices();
        due.is("sure(0)", x.sure(0), 0);
        due.is("sure(1)", x.sure(1), 1);
        due.is("sure(2)", x.sure(2), 6);
        x.look(2, 1);
        due.is("sure(0) after a look", x.sure(0), 4);
        due.is("sure(1) after a look", x.sure(1), 3);
        due.is("sure(2) after a look", x.sure(2), 0);
        due.is("sure(3)", x.sure(3), -2);
        due.is("sure(-1)", x.sure(-1), -2);
        x.look(0, 1);
        due.is("sure(0) without worlds", x.sure(0), -3);
        due.is("sure(1) without worlds", x.sure(1), -3);
        due.is("sure(2) without worlds", x.sure(2), -3);
        due.is("sure(3) without worlds", x.sure(3), -2);
    }

    private static void promise17None() {
        EveryMapWrong x = threeChoices();
        due.is("none() while there are worlds", x.none(), -1);
        x.map(2, 7, 0, 0);
        due.is("none()", x.none(), 6);
        x.map(5, 0, 0, 0);
        due.is("none() by one map", x.none(), 8);
        x.map(5, 0, 0, 0);
        due.is("none() by the least of two", x.none(), 8);
        Tape.law(x, "may 0;harm 1;price 1;");
        due.is("none() by the law alone", x.none(), 0);
        due.is("none() without maps", new EveryMapWrong().none(), -1);

        EveryMapWrong y = new EveryMapWrong();
        y.town(4);
        y.map(4, 0, 0, 1);
        y.map(4, 15, 0, 1);
        y.map(4, 3, 0, 0);
        y.map(4, 12, 0, 0);
        due.is("none() by the only pair", y.none(), 12);
        y.map(2, 3, 0, 0);
        due.is("none() by the least of two pairs", y.none(), 12);
        y.map(5, 0, 0, 0);
        due.is("none() by one, which stands last", y.none(), 32);
    }

    private static void promise18Judge() {
        EveryMapWrong x = threeChoices();
        due.is("judge(2)", x.judge(2), -1);
        due.is("judge(4)", x.judge(4), -1);
        due.is("judge(7)", x.judge(7), 1);
        due.is("judge(6)", x.judge(6), 0);
        due.is("judge(1)", x.judge(1), 0);
        due.is("judge(8)", x.judge(8), -2);
        due.is("judge(-1)", x.judge(-1), -2);
        x.look(2, 0);
        due.is("judge(2) after a look", x.judge(2), -1);
        due.is("judge(4) after a look", x.judge(4), 99);
        due.is("judge(7) after a look", x.judge(7), 99);
        Tape.law(x, "may not b;harm 1;price 1;");
        due.is("judge(2) by another law", x.judge(2), 99);
        due.is("judge(1) by another law", x.judge(1), 0);
        due.is("judge(8) by another law", x.judge(8), -2);
        EveryMapWrong y = new EveryMapWrong();
        due.is("judge(0) without maps", y.judge(0), -1);
        for (int m = 0; m < 7; m++) {
            y.map(4, 0, 0, 9);
        }
        y.map(0, 0, 0, 0);
        due.is("judge(0) by the last of eight", y.judge(0), 7);
    }

    public static void main(String[] args) {
        promise14Worlds();
        promise15World();
        promise16Sure();
        promise17None();
        promise18Judge();
        due.end();
    }
}
