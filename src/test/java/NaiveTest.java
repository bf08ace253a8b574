/** Long seeded runs of calls, each answer held against the naive reading of the document. */
public final class NaiveTest {
    private static final Due due = new Due("NaiveTest");
    private static long lot = 1;

    private static int lot(int many) {
        lot = lot * 6364136223846793005L + 1442695040888963407L;
        return (int) ((lot >>> 33) % many);
    }

    /** Mostly a number from 0 to below many, now and then one that lies outside or far outside. */
    private static int about(int many) {
        int[] odd = {-1, -2, many, many + 1, Integer.MAX_VALUE, Integer.MIN_VALUE, 64, -lot(1000)};
        return lot(40) == 0 ? odd[lot(odd.length)] : lot(many);
    }

    private static final String[] WORDS = {"may", "harm", "price", "or", "and", "not", "a", "b", "c", "d", "far",
        "worlds", "0", "1", "2", "7", "12", "99", "1000", "9999", "12345", "(", ")", ";", "+", "-", "*", "<", "=",
        " ", "\n", "x", "ab", "@", "\t"};
    private static final String[] JOINTS = {" or ", " and ", "<", "=", "+", "-", "*", " + ", " - ", "*"};
    private static final String[] LAWS = {"a or b", "not a or b", "a + b + c + d < 3", "a = b", "c or d and not a",
        "1", "0", "a", "b < a", "a*2+b*3-c"};

    private static String one(int depth) {
        String[] ones = {"a", "b", "c", "d", "far", "worlds", "3", "17", "250", "9999"};
        int pick = lot(14);
        if (depth > 0 && pick == 0) return "(" + expression(depth - 1) + ")";
        if (depth > 0 && pick == 1) return "-" + one(depth - 1);
        return ones[pick % ones.length];
    }

    private static String expression(int depth) {
        String e = lot(5) == 0 ? "not " + one(depth) : one(depth);
        for (int i = lot(4); i > 0; i--) {
            String joint = JOINTS[lot(JOINTS.length)];
            e += joint + (joint.endsWith("r ") || joint.endsWith("d ") ? expression(0) : one(depth));
        }
        return e;
    }

    private static String nested() {
        String[] openers = {"(", "-", "not ", "- ", "( "};
        String e = "";
        int closers = 0;
        for (int i = 3 + lot(5); i > 0; i--) {
            String o = openers[lot(openers.length)];
            if (o.startsWith("(")) closers++;
            e += o;
        }
        e += "a";
        for (; closers > 0; closers--) {
            e += ")" + (lot(3) == 0 ? JOINTS[lot(JOINTS.length)] + one(2) : "");
        }
        return e;
    }

    private static String someText() {
        String may = lot(3) == 0 ? expression(5) : LAWS[lot(LAWS.length)];
        String harm = lot(4) == 0 ? nested() : expression(5);
        String text = "may " + may + ";harm " + harm + " ; price " + expression(4) + ";";
        for (int i = lot(3); i > 1; i--) {
            int at = lot(text.length());
            text = text.substring(0, at) + WORDS[lot(WORDS.length)] + text.substring(Math.min(text.length(), at + lot(3)));
        }
        if (lot(12) == 0) text = text.substring(0, lot(text.length()));
        if (lot(12) == 0) text += WORDS[lot(WORDS.length)];
        return text;
    }

    private static void feedText(EveryMapWrong x, Naive y, String text) {
        for (int from = 0; from < text.length(); from += 8) {
            int to = Math.min(text.length(), from + 8);
            long w = lot(2) == 0 ? -1 : 0;
            for (int i = from; i < to; i++) w = w << 8 | text.charAt(i);
            due.is("feed(" + w + ", " + (to - from) + ")", x.feed(w, to - from), y.feed(w, to - from));
        }
        due.is("text() of " + text.replace('\n', '_'), x.text(), y.text());
    }

    private static int town(EveryMapWrong x) {
        int some = x.world(lot(8));
        return lot(3) > 0 && some >= 0 ? some : about(1 << x.count(0));
    }

    private static int someMap(EveryMapWrong x) {
        return lot(8) > 0 && x.count(1) > 0 ? lot(x.count(1)) : about(9);
    }

    private static int two() {
        return lot(30) == 0 ? about(70) : lot(6) * 10 + lot(6);
    }

    private static void change(EveryMapWrong x, Naive y) {
        int n = x.count(0);
        int a = about(6), b = about(1 << n), c = about(1 << n), d = lot(2) == 0 ? about(3) : about(10);
        // Maps near to one another leave worlds to both, far ones hardly do.
        if (lot(3) > 0 && x.count(1) > 0) b = x.told(lot(x.count(1)), 1) ^ 1 << lot(n);
        switch (lot(15)) {
            case 0: due.is("town(" + d + ")", x.town(d), y.town(d)); break;
            case 1: case 2: case 3:
                due.is("map(" + a + ", " + b + ", " + c + ", " + d + ")", x.map(a, b, c, d), y.map(a, b, c, d)); break;
            case 4: due.is("drop()", x.drop(), y.drop()); break;
            case 5: a = about(8); b = about(100);
                due.is("price(" + a + ", " + b + ")", x.price(a, b), y.price(a, b)); break;
            case 6: a = about(n); b = lot(3) - 1 + (lot(30) == 0 ? 2 : 0);
                due.is("look(" + a + ", " + b + ")", x.look(a, b), y.look(a, b)); break;
            case 7: case 8: case 9: a = about(6); b = about(6); c = lot(4) == 0 ? -1 : about(n); d = about(lot(2) == 0 ? 4 : 101);
                due.is("street(" + a + ", " + b + ", " + c + ", " + d + ")", x.street(a, b, c, d), y.street(a, b, c, d)); break;
            case 10: a = two(); due.is("goer(" + a + ")", x.goer(a), y.goer(a)); break;
            case 11: due.is("image()", x.image(), y.image()); break;
            case 12: due.is("back()", x.back(), y.back()); break;
            case 13: a = about(x.count(4)); due.is("force(" + a + ")", x.force(a), y.force(a)); break;
            default: if (lot(4) == 0) feedText(x, y, someText());
                else { long w = lot(256); a = lot(20) == 0 ? 8 : about(10) % 2; due.is("feed(" + w + ", " + a + ")", x.feed(w, a), y.feed(w, a)); }
        }
    }

    private static void host(EveryMapWrong x, Naive y) {
        int s = about(4), sort = lot(5) == 0 ? about(4) - 1 : lot(3), n = lot(3) > 0 ? 8 + lot(33) : about(45);
        int[] values = {about(6), about(1 << x.count(0)), about(10), 256 + lot(6), 65536 + lot(6), -lot(300), lot(70000)};
        int i = about(12), j = about(12), k = about(10), v = values[lot(values.length)], o = about(4);
        switch (lot(7)) {
            case 0: case 6: due.is("sheet(" + s + ", " + sort + ", " + n + ")", x.sheet(s, sort, n), y.sheet(s, sort, n)); break;
            case 1: due.is("copy(" + s + ", " + i + ", " + o + ", " + j + ", " + k + ")", x.copy(s, i, o, j, k), y.copy(s, i, o, j, k)); break;
            case 2: due.is("mapsBy(" + s + ", " + sort + ", " + i + ", " + k + ")", x.mapsBy(s, sort, i, k), y.mapsBy(s, sort, i, k)); break;
            default: due.is("cell(" + s + ", " + i + ", " + v + ")", x.cell(s, i, v), y.cell(s, i, v));
        }
    }

    private static void askTown(EveryMapWrong x, Naive y) {
        int a = someMap(x), t = town(x), w = about(3), c = about(x.count(0)), g = about(6), b = about(9), what = about(2);
        int set = about(Math.max(1, 1 << x.count(1)));
        switch (lot(18)) {
            case 0: b = about(9); due.is("count(" + b + ")", x.count(b), y.count(b)); break;
            case 1: due.is("may(" + t + ")", x.may(t), y.may(t)); break;
            case 2: due.is("told(" + a + ", " + g + ")", x.told(a, g), y.told(a, g)); break;
            case 3: due.is("slips(" + a + ", " + t + ", " + what + ")", x.slips(a, t, what), y.slips(a, t, what)); break;
            case 4: due.is("worlds(" + set + ")", x.worlds(set), y.worlds(set)); break;
            case 5: due.is("world(" + a + ")", x.world(a), y.world(a)); break;
            case 6: due.is("sure(" + w + ")", x.sure(w), y.sure(w)); break;
            case 7: due.is("none()", x.none(), y.none()); break;
            case 8: due.is("judge(" + t + ")", x.judge(t), y.judge(t)); break;
            case 9: due.is("enough(" + c + ")", x.enough(c), y.enough(c)); break;
            case 10: due.is("many()", x.many(), y.many()); break;
            case 11: due.is("next(" + what + ")", x.next(what), y.next(what)); break;
            case 12: due.is("looks()", x.looks(), y.looks()); break;
            case 13: due.is("years(" + a + ", " + what + ")", x.years(a, what), y.years(a, what)); break;
            case 14: b = lot(3) == 0 ? about(10000) : lot(300);
                due.is("buy(" + b + ", " + what + ")", x.buy(b, what), y.buy(b, what)); break;
            case 15: due.is("worth(" + a + ")", x.worth(a), y.worth(a)); break;
            case 16: b = about(100000); due.is("drawn(" + b + ", " + w + ")", x.drawn(b, w), y.drawn(b, w)); break;
            default: due.is("join()", x.join(), y.join());
        }
    }

    private static void askWays(EveryMapWrong x, Naive y) {
        int a = someMap(x), t = town(x), c = about(x.count(0)), g = about(6), b = someMap(x), what = about(2), two = two();
        int i = about(20), kind = about(7);
        switch (lot(13)) {
            case 0: due.is("way(" + two + ", " + t + ")", x.way(two, t), y.way(two, t)); break;
            case 1: due.is("safe(" + two + ")", x.safe(two), y.safe(two)); break;
            case 2: due.is("soon(" + two + ")", x.soon(two), y.soon(two)); break;
            case 3: due.is("step(" + two + ", " + t + ")", x.step(two, t), y.step(two, t)); break;
            case 4: due.is("trip(" + a + ", " + two + ", " + t + ")", x.trip(a, two, t), y.trip(a, two, t)); break;
            case 5: due.is("harm(" + t + ", " + c + ")", x.harm(t, c), y.harm(t, c)); break;
            case 6: due.is("put(" + t + ", " + what + ")", x.put(t, what), y.put(t, what)); break;
            case 7: due.is("trick(" + t + ", " + g + ", " + what + ")", x.trick(t, g, what), y.trick(t, g, what)); break;
            case 8: due.is("from(" + a + ")", x.from(a), y.from(a)); break;
            case 9: due.is("tree()", x.tree(), y.tree()); break;
            case 10: due.is("drawnFrom(" + a + ")", x.drawnFrom(a), y.drawnFrom(a)); break;
            case 11: due.is("over(" + a + ", " + b + ", " + what + ")", x.over(a, b, what), y.over(a, b, what)); break;
            default: due.is("taken(" + i + ", " + kind + ")", x.taken(i, kind), y.taken(i, kind));
        }
    }

    /** A town with streets, goers, a law and maps near to one another, of which most calls have much to tell. */
    private static void settle(EveryMapWrong x, Naive y, int n) {
        due.is("town(" + n + ")", x.town(n), y.town(n));
        for (int i = 4 + lot(9); i > 0; i--) {
            int u = lot(6), v = lot(6), c = lot(6) == 0 ? -1 : lot(n), takes = 1 + lot(lot(2) == 0 ? 5 : 40);
            due.is("street(" + u + ", " + v + ", " + c + ", " + takes + ")", x.street(u, v, c, takes), y.street(u, v, c, takes));
        }
        for (int i = lot(7); i > 0; i--) {
            int two = two();
            due.is("goer(" + two + ")", x.goer(two), y.goer(two));
        }
        String[] harms = {"far", "far + a*10 + b*100 + worlds*5", "far*12 - 3", "1 + far*far", "(far < 9) * 7 - c"};
        String[] prices = {"3 + worlds", "worlds*40 - a + b*2 + far", "9 - worlds*worlds", "c and d or a*99"};
        feedText(x, y, "may " + LAWS[lot(LAWS.length)] + ";harm " + harms[lot(5)] + ";price " + prices[lot(4)] + ";");
        due.is("force(1)", x.force(1), y.force(1));
        int town = lot(1 << n);
        for (int i = lot(7); i > 0; i--) {
            int kind = lot(4) == 0 ? lot(6) : 2 + lot(3), says = town ^ (lot(4) == 0 ? 0 : 1 << lot(n)), mask = lot(1 << n), more = lot(3);
            due.is("map(" + kind + ", " + says + ", " + mask + ", " + more + ")", x.map(kind, says, mask, more), y.map(kind, says, mask, more));
        }
    }

    /** Texts alone, whole or spoilt, and what they say of all towns and of maps of all towns. */
    private static void readTexts() {
        for (int run = 0; run < 3000 && !due.hasWrong(); run++) {
            lot = 1000000 + run;
            EveryMapWrong x = new EveryMapWrong();
            Naive y = new Naive();
            due.is("town(4)", x.town(4), y.town(4));
            for (int i = 0; i < 5; i++) {
                String text = lot(4) == 0 ? "may a;harm " + nested() + ";price " + nested() + ";" : someText();
                feedText(x, y, text);
            }
            int law = lot(6);
            due.is("force(" + law + ")", x.force(law), y.force(law));
            for (int t = 0; t < 16; t++) {
                due.is("may(" + t + ") in run " + run, x.may(t), y.may(t));
            }
            for (int m = 0; m < 8; m++) {
                int says = m + lot(8);
                due.is("map(2, " + says + ", 0, 0)", x.map(2, says, 0, 0), y.map(2, says, 0, 0));
                due.is("worth(" + m + ") in run " + run, x.worth(m), y.worth(m));
            }
        }
    }

    public static void main(String[] args) {
        readTexts();
        for (int run = 0; run < 3000 && !due.hasWrong(); run++) {
            lot = run;
            EveryMapWrong x = new EveryMapWrong();
            Naive y = new Naive();
            int n = 1 + lot(6) + (lot(10) == 0 ? 3 : 0);
            if (run % 4 > 0) settle(x, y, n);
            for (int call = 0; call < 100; call++) {
                int part = lot(20);
                if (part < 3) change(x, y);
                else if (part < 5) host(x, y);
                else if (part < 12) askTown(x, y);
                else askWays(x, y);
            }
            if (due.hasWrong()) System.out.println("NaiveTest: that was run " + run);
        }
        due.end();
    }
}
