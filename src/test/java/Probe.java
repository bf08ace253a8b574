import java.util.ArrayList;
import java.util.List;

/**
 * All that calls can tell of an object, in parts of less than 400 calls, each for an object of its own: some parts
 * change what they ask about.
 */
final class Probe {
    static final int PARTS = 10;

    private final EveryMapWrong x;
    private final List<String> answers = new ArrayList<>();

    private Probe(EveryMapWrong x) {
        this.x = x;
    }

    static List<String> ask(EveryMapWrong x, int part) {
        Probe probe = new Probe(x);
        switch (part) {
            case 0: probe.askMaps(); break;
            case 1: probe.askWorlds(); break;
            case 2: probe.askWays(); break;
            case 3: probe.askTrips(); break;
            case 4: probe.askTapeAndTexts(); break;
            case 5: probe.askImage(); break;
            default: probe.askSheet(part - 6);
        }
        return probe.answers;
    }

    private void told(String call, int answer) {
        answers.add(call + " " + answer);
    }

    private int lastTown() {
        return (1 << x.count(0)) - 1;
    }

    private void askCounts() {
        for (int what = 0; what <= 8; what++) {
            told("count", x.count(what));
        }
    }

    private void askMaps() {
        askCounts();
        for (int m = 0; m < 8; m++) {
            for (int what = 0; what <= 4; what++) {
                told("told", x.told(m, what));
            }
            for (int t = 0; t < 8; t++) {
                told("slips", x.slips(m, t * 5 & lastTown(), 1));
            }
            told("from", x.from(m));
            told("drawnFrom", x.drawnFrom(m));
            told("over", x.over(m, 0, 0));
        }
        for (int t = 0; t < 16; t++) {
            told("may", x.may(t));
            told("judge", x.judge(t));
        }
        for (int i = 0; i < 20; i++) {
            told("taken", x.taken(i, i < 12 ? 6 : 0));
        }
        told("tree", x.tree());
    }

    private void askWorlds() {
        for (int set = 0; set < 64; set++) {
            told("worlds", x.worlds(set));
        }
        told("worlds", x.worlds(255));
        for (int k = 0; k < 40; k++) {
            told("world", x.world(k));
        }
        for (int what = 0; what <= 2; what++) {
            told("sure", x.sure(what));
            told("drawn", x.drawn(4711, what));
        }
        told("none", x.none());
        told("many", x.many());
        told("next", x.next(0));
        told("next", x.next(1));
        told("looks", x.looks());
        told("join", x.join());
        for (int c = 0; c < 9; c++) {
            told("enough", x.enough(c));
        }
        for (int m = 0; m < 8; m++) {
            told("years", x.years(m, 0));
            told("years", x.years(m, 1));
            told("worth", x.worth(m));
        }
        for (int coin = 0; coin < 8; coin++) {
            told("buy", x.buy(coin * coin * 10, 0));
        }
    }

    private void askWays() {
        int world = Math.max(0, x.world(0));
        for (int u = 0; u < 6; u++) {
            for (int v = 0; v < 6; v++) {
                int two = 10 * u + v;
                told("way", x.way(two, 0));
                told("way", x.way(two, lastTown()));
                told("way", x.way(two, lastTown() & 5));
                told("safe", x.safe(two));
                told("soon", x.soon(two));
                told("step", x.step(two, world));
            }
        }
    }

    private void askTrips() {
        for (int u = 0; u < 6; u++) {
            for (int v = 0; v < 6; v++) {
                told("trip", x.trip(0, 10 * u + v, lastTown()));
                told("trip", x.trip(1, 10 * u + v, lastTown() & 3));
            }
        }
        for (int g = 0; g < 6; g++) {
            told("trick", x.trick(lastTown(), g, 0));
            told("trick", x.trick(lastTown(), g, 1));
        }
        for (int c = 0; c < 9; c++) {
            told("harm", x.harm(lastTown(), c));
            told("harm", x.harm(0, c));
        }
        told("put", x.put(lastTown(), 0));
        told("put", x.put(lastTown(), 1));
        for (int g = 0; g <= 6; g++) {
            told("goer", x.goer(11 * Math.min(g, 5)));
        }
        for (int s = 0; s <= 12; s++) {
            told("street", x.street(0, 1, -1, 1));
        }
    }

    private void askTapeAndTexts() {
        told("count", x.count(6));
        told("feed", x.feed(';', 1));
        told("text", x.text());
        told("count", x.count(6));
        for (int t = 0; t < 6; t++) {
            told("force", x.force(t));
            for (int town = 0; town < 16; town++) {
                told("may", x.may(town));
            }
            for (int m = 0; m < 8; m++) {
                told("worth", x.worth(m));
            }
            told("harm", x.harm(lastTown(), 0));
        }
        for (int t = 0; t < 6; t++) {
            told("text", Tape.read(x, "may 1;harm 1;price 1;"));
        }
    }

    private void askImage() {
        askCounts();
        told("back", x.back());
        askCounts();
        for (int m = 0; m < 8; m++) {
            for (int what = 0; what <= 4; what++) {
                told("told", x.told(m, what));
            }
        }
        for (int m = 0; m < 8; m++) {
            told("drop", x.drop());
            told("back", x.back());
        }
    }

    /** A sheet's numbers show by the maps that they make. */
    private void askSheet(int s) {
        for (int n = 0; n <= 40; n++) {
            told("copy", x.copy(s, 0, s, 0, n));
        }
        while (x.count(1) > 0) {
            x.drop();
        }
        x.map(0, 0, 0, 0);
        for (int sort = 0; sort < 3; sort++) {
            told("mapsBy", x.mapsBy(s, sort, 0, 0));
            for (int at = 0; at <= 36 && x.mapsBy(s, sort, 0, 0) == 0; at++) {
                told("mapsBy", x.mapsBy(s, sort, at, 1));
                if (x.count(1) > 1) {
                    for (int what = 0; what < 4; what++) {
                        told("told", x.told(1, what));
                    }
                    x.drop();
                }
            }
        }
    }
}
