import java.util.ArrayList;
import java.util.Collections;
import java.util.List;

/**
 * Every number of every call at its bounds: the last that is allowed and the first that is not, on both sides, the
 * least and the greatest int, and all these with one another, in several states: which refusal is told first, and
 * that it leaves everything as it was. What no number refuses is held against the naive reading.
 */
public final class RefusalsTest {
    private static final Due due = new Due("RefusalsTest");
    private static final int MIN = Integer.MIN_VALUE, MAX = Integer.MAX_VALUE;

    /** Calls with their kinds of numbers, then the refusals in the order in which the document tells them. */
    private static final String[] ROWS = {
        "town n | -2 n",
        "count what8 | -2 what8",
        "feed long bytes | -2 bytes",
        "force text | -2 text",
        "may town | -2 town",
        "map kind town town more | -2 kind town town more",
        "price map v99 | -1 map | -2 v99",
        "told map what4 | -5 map | -7 what4",
        "slips map town what1 | -5 map | -7 town what1",
        "look choice seen | -5 choice | -7 seen",
        "worlds set | -2 set",
        "world free |",
        "sure what2 | -2 what2",
        "judge town | -2 town",
        "street place place open takes | -2 place place open takes",
        "way two town | -5 two | -7 town",
        "safe two | -5 two",
        "soon two | -5 two",
        "step two town | -5 two | -7 town",
        "trip map two town | -5 map two | -7 town",
        "goer two | -2 two",
        "harm town choice | -2 town | -5 choice",
        "put town what1 | -2 town what1",
        "trick town goer what1 | -2 town what1 | -5 goer",
        "enough choice | -5 choice",
        "next what1 | -2 what1",
        "from map | -5 map",
        "drawnFrom map | -5 map",
        "over map map what1 | -5 map map | -7 what1",
        "years map what1 | -5 map | -7 what1",
        "buy coin what1 | -2 coin what1",
        "worth map | -5 map",
        "drawn seed what2 | -2 seed what2",
        "cell sheet free free | -2 sheet",
        "copy sheet free sheet free few | -2 sheet sheet",
        "mapsBy sheet sort free n8 | -2 sheet sort n8",
        "taken free kind6 | -2 kind6",
        "text |", "drop |", "none |", "many |", "looks |", "tree |", "join |", "image |", "back |"};

    private static final String CHANGING =
        " town feed text force map drop price look street goer image back sheet cell copy mapsBy ";

    private static final String[][] STATES = {
        {},
        {"town 3", "map 0 6 3 0", "map 2 0 5 4", "map 3 7 6 0", "street 0 1 0 3", "street 1 2 -1 4", "street 0 2 2 9",
            "goer 2", "goer 20", "law may a or b or c;harm far + a;price worlds + b;", "look 1 1", "image", "price 1 7",
            "tape may a;harm b;price c", "sheet 0 2 9", "cell 0 1 3", "cell 0 5 4", "sheet 1 0 4", "sheet 2 2 6"},
        {"town 3", "map 0 6 3 0", "map 0 6 3 0", "look 0 1", "look 1 0", "street 0 1 -1 1", "goer 1", "goer 33"},
        {"town 9", "map 0 511 511 9", "map 1 510 0 0", "map 2 7 1 1", "map 3 8 7 2", "map 4 500 3 8", "map 5 3 3 0",
            "map 4 0 511 9", "map 2 511 0 0", "street 0 1 8 99", "street 1 2 -1 1", "street 2 3 0 5", "street 3 4 1 6",
            "street 4 5 2 7", "street 5 0 3 8", "street 0 2 4 9", "street 1 3 5 10", "street 2 4 6 11", "street 3 5 7 12",
            "street 4 0 8 13", "street 5 1 -1 14", "goer 5", "goer 50", "goer 23", "goer 41", "goer 14", "goer 0",
            "read may a;harm 1;price 2;", "read may b;harm far;price 3;", "read may c;harm d;price worlds;",
            "read may d;harm 4;price 5;", "read may 1;harm 0;price 1;", "force 3", "image", "sheet 0 0 40", "sheet 1 1 40",
            "sheet 2 2 40", "sheet 3 0 0",
            "tape may a    may a    may a    may a    may a    may a    may a    may a    may a    may a    "
            + "may a    may a    may a    may a    may a    may a    may a   !"}};

    private final String[] state;
    private final int choices, maps, texts, goers;

    private RefusalsTest(String[] state) {
        this.state = state;
        EveryMapWrong x = fresh();
        choices = x.count(0);
        maps = x.count(1);
        goers = x.count(3);
        texts = x.count(4);
    }

    private EveryMapWrong fresh() {
        EveryMapWrong x = new EveryMapWrong();
        for (String call : state) {
            Calls.on(x, call);
        }
        return x;
    }

    private Naive naive() {
        Naive y = new Naive();
        for (String call : state) {
            Calls.on(y, call);
        }
        return y;
    }

    /** The least and the greatest number of a kind that are allowed. */
    private int[] bounds(String kind) {
        switch (kind) {
            case "n": return new int[] {1, 9};
            case "bytes": return new int[] {1, 8};
            case "text": return new int[] {0, texts - 1};
            case "town": return new int[] {0, (1 << choices) - 1};
            case "choice": return new int[] {0, choices - 1};
            case "map": return new int[] {0, maps - 1};
            case "goer": return new int[] {0, goers - 1};
            case "set": return new int[] {0, (1 << maps) - 1};
            case "kind": return new int[] {0, 5};
            case "more": return new int[] {0, 9};
            case "seen": return new int[] {-1, 1};
            case "place": return new int[] {0, 5};
            case "open": return new int[] {-1, choices - 1};
            case "takes": return new int[] {1, 99};
            case "coin": return new int[] {0, 9999};
            case "seed": return new int[] {0, 99999};
            case "sheet": return new int[] {0, 3};
            case "sort": return new int[] {0, 2};
            default:
                // what8, v99, kind6, n8: from 0 to the number that is told.
                return new int[] {0, Integer.parseInt(kind.replaceAll("[a-z]", ""))};
        }
    }

    private static boolean isFree(String kind) {
        return kind.equals("free") || kind.equals("long") || kind.equals("few");
    }

    private boolean allowed(String kind, long v) {
        if (kind.equals("two")) {
            return v >= 0 && v < 60 && v % 10 < 6;
        }
        return isFree(kind) || v >= bounds(kind)[0] && v <= bounds(kind)[1];
    }

    private long[] numbers(String kind) {
        switch (kind) {
            case "two": return new long[] {MIN, -11, -10, -1, 0, 5, 6, 9, 10, 16, 50, 55, 56, 60, 65, 100, 110, MAX};
            case "free": return new long[] {MIN, -1, 0, 1, 11, 12, 19, 20, 39, 40, 512, MAX};
            case "few": return new long[] {MIN, -1, 0, 1, 40, 41, MAX};
            case "long": return new long[] {Long.MIN_VALUE, -1, 0, ';', Long.MAX_VALUE};
            default:
                int least = bounds(kind)[0], most = bounds(kind)[1];
                return least > most ? new long[] {MIN, -1, 0, 1, MAX}
                    : new long[] {MIN, least - 1, least, most, most + 1, MAX};
        }
    }

    private void row(String row) {
        String[] parts = row.split("\\|");
        String[] words = parts[0].trim().split(" ");
        List<String> calls = new ArrayList<>(List.of(""));
        for (int i = 1; i < words.length; i++) {
            List<String> longer = new ArrayList<>();
            for (String call : calls) {
                for (long v : numbers(words[i])) {
                    longer.add(call + " " + v);
                }
            }
            calls = longer;
        }
        boolean asks = !CHANGING.contains(" " + words[0] + " ");
        List<String> shown = new ArrayList<>();
        for (String call : calls) {
            String[] numbers = call.trim().isEmpty() ? new String[0] : call.trim().split(" ");
            int refusal = refusal(parts, words, numbers);
            check(words[0] + call, refusal, asks, shown);
        }
    }

    /** The refusal that is told first for a number that is not allowed; 0, if all are allowed. */
    private int refusal(String[] parts, String[] words, String[] numbers) {
        for (int p = 1; p < parts.length; p++) {
            String[] told = parts[p].trim().split(" ");
            for (int k = 1; k < told.length; k++) {
                for (int i = 0; i < numbers.length; i++) {
                    if (words[i + 1].equals(told[k]) && !allowed(told[k], Long.parseLong(numbers[i]))) {
                        return Integer.parseInt(told[0]);
                    }
                }
            }
        }
        return 0;
    }

    private void check(String call, int refusal, boolean asks, List<String> shown) {
        int answer = Calls.on(fresh(), call);
        int want = Calls.on(naive(), call);
        String told = state.length + " calls, then " + call;
        due.is(told, answer, want);
        if (refusal < 0) {
            due.is(told, answer, refusal);
        }
        // Each answer is held against a twin a few times alone, since most are alike.
        String like = answer + " " + (refusal < 0);
        if ((asks || refusal < 0 || refuses(call, answer)) && Collections.frequency(shown, like) < 3) {
            shown.add(like);
            for (int part = 0; part < Probe.PARTS; part++) {
                EveryMapWrong x = fresh();
                Calls.on(x, call);
                due.isTrue(told + " changes what part " + part + " of Probe asks",
                    Probe.ask(x, part).equals(Probe.ask(fresh(), part)));
            }
        }
    }

    /** Whether an answer is a refusal that changes nothing: mapsBy brings the MAPS that stood ahead of a -12. */
    private static boolean refuses(String call, int answer) {
        return answer >= -14 && answer <= -2 && !(call.startsWith("mapsBy") && answer == -12);
    }

    /** sheet() has a number that does not always matter. */
    private void sheets() {
        for (long s : numbers("sheet")) {
            for (long sort : new long[] {MIN, -2, -1, 0, 2, 3, MAX}) {
                for (long n : new long[] {MIN, -1, 0, 40, 41, MAX}) {
                    String call = "sheet " + s + " " + sort + " " + n;
                    boolean bad = !allowed("sheet", s) || sort < -1 || sort > 2 || sort >= 0 && n > 40;
                    int want = bad ? -2 : sort >= 0 && n < 0 ? -14 : 1;
                    due.is(state.length + " calls, then " + call, Calls.on(fresh(), call), want);
                }
            }
        }
    }

    public static void main(String[] args) {
        for (String[] state : STATES) {
            Run.of(due, "a state of RefusalsTest", state);
            RefusalsTest test = new RefusalsTest(state);
            for (String row : ROWS) {
                test.row(row);
            }
            test.sheets();
        }
        due.end();
    }
}
