import java.util.ArrayList;
import java.util.Arrays;
import java.util.List;
import java.util.TreeSet;

/**
 * Every call of every promise with each argument far below, just below, at and just above its bounds,
 * and all of these together, on objects with nothing, with some, with nearly all and with all that
 * there is room for: its refusal, the order in which refusals are told, and that a refused call (and
 * one that only asks) changes nothing but how many REFUSALS there were.
 */
public final class RefusalsTest {
    private static final Checks CHECKS = new Checks();
    private static final long LONG = 4000000000000000000L;
    private static final int NOBODY = -1;
    private static final int OTHER = -2;
    private static final int STATE = -3;
    private static final int BELOW = -4;
    private static final int ROOM = -6;

    interface Call {
        long on(TilesGoAbout x, int[] a);
    }

    interface Fits {
        boolean fits(State s, int[] a);
    }

    /** What an object has; made is not told by the object itself, so that it can't lead the test. */
    record State(String name, int ones, int letters, int row, int night, boolean pictured) {
        TilesGoAbout made() {
            TilesGoAbout x = Telling.atNight(night);
            for (int i = 0; i < ones; i++) {
                x.comesIn(i % 6, i, 3 * i);
            }
            if (ones > 2) {
                Telling.tell(x, "a005;a121;a209;p24;c07;c18;c23;s21;");
            }
            // The HOMES first, then what is none: so a ROW that has changed is judged otherwise.
            for (int i = 0; i < row; i++) {
                x.row(i < ones ? 3 * i : 99);
            }
            // Each of these letters is looked at by chimney(): another TILE in each STATEMENT.
            for (int i = 0; i < letters; i++) {
                x.letter(String.format("c%02d;", i / 4).charAt(i % 4));
            }
            if (pictured) {
                x.image();
                Telling.tell(x, "s04;c10;");
            }
            return x;
        }
    }

    private static final State[] STATES = {
        new State("a new object", 0, 0, 0, 0, false),
        new State("an object with some", 3, 8, 2, 939, true),
        new State("an object with room for one", 6, 95, 15, 940, true),
        new State("a full object", 7, 96, 16, 999, false),
    };

    record Refusal(int number, Fits when) {
    }

    /** A call, the bounds of its arguments, and its refusals in the order in which the promise tells them. */
    static final class Promise {
        final String name;
        final boolean asks;
        final boolean isLong;
        final Call call;
        final List<int[]> bounds = new ArrayList<>();
        final List<Refusal> refusals = new ArrayList<>();

        Promise(String name, boolean asks, boolean isLong, Call call) {
            this.name = name;
            this.asks = asks;
            this.isLong = isLong;
            this.call = call;
        }

        Promise of(int least, int greatest) {
            bounds.add(new int[] {least, greatest});
            return this;
        }

        /** An argument that is the number of one: its greatest is another in each State. */
        Promise one() {
            bounds.add(null);
            return this;
        }

        Promise refuses(int number, Fits when) {
            refusals.add(new Refusal(number, when));
            return this;
        }

        /** Which of the refusals fits first; -1 if none. */
        int first(State s, int[] a) {
            for (int i = 0; i < refusals.size(); i++) {
                if (refusals.get(i).when.fits(s, a)) {
                    return i;
                }
            }
            return -1;
        }
    }

    private static final List<Promise> PROMISES = new ArrayList<>();

    private static Promise asks(String name, Call call) {
        PROMISES.add(new Promise(name, true, false, call));
        return PROMISES.get(PROMISES.size() - 1);
    }

    private static Promise asksLong(String name, Call call) {
        PROMISES.add(new Promise(name, true, true, call));
        return PROMISES.get(PROMISES.size() - 1);
    }

    private static Promise changes(String name, Call call) {
        PROMISES.add(new Promise(name, false, false, call));
        return PROMISES.get(PROMISES.size() - 1);
    }

    private static boolean noTile(int tile) {
        return tile < 0 || tile > 23;
    }

    private static boolean noOne(State s, int one) {
        return one < 0 || one >= s.ones;
    }

    private static void told2To12() {
        changes("promise 2: letter", (x, a) -> x.letter(a[0])).of(0, 255)
            .refuses(BELOW, (s, a) -> a[0] < 0)
            .refuses(ROOM, (s, a) -> a[0] > 255 || s.letters == 96);
        changes("promise 3: chimney", (x, a) -> x.chimney());
        asks("promise 4: little", (x, a) -> x.little(a[0], a[1])).one().of(0, 6)
            .refuses(NOBODY, (s, a) -> noOne(s, a[0]))
            .refuses(OTHER, (s, a) -> a[1] < 0 || a[1] > 6);
        asks("promise 5: tile", (x, a) -> x.tile(a[0], a[1])).of(0, 23).of(0, 1)
            .refuses(NOBODY, (s, a) -> noTile(a[0]))
            .refuses(OTHER, (s, a) -> a[1] < 0 || a[1] > 1);
        changes("promise 6: comesIn", (x, a) -> x.comesIn(a[0], a[1], a[2])).of(0, 5).of(0, 9).of(0, 23)
            .refuses(OTHER, (s, a) -> a[0] < 0 || a[0] > 5)
            .refuses(BELOW, (s, a) -> a[1] < 0)
            .refuses(ROOM, (s, a) -> a[1] > 9)
            .refuses(NOBODY, (s, a) -> noTile(a[2]))
            .refuses(ROOM, (s, a) -> s.ones == 7);
        changes("promise 7: stands", (x, a) -> x.stands(a[0], a[1])).one().of(0, 23)
            .refuses(NOBODY, (s, a) -> noOne(s, a[0]))
            .refuses(NOBODY, (s, a) -> noTile(a[1]));
        changes("promise 8: cracks", (x, a) -> x.cracks(a[0])).of(0, 23)
            .refuses(NOBODY, (s, a) -> noTile(a[0]));
        changes("promise 9: ship", (x, a) -> x.ship(a[0])).of(0, 23)
            .refuses(NOBODY, (s, a) -> noTile(a[0]));
        changes("promise 10: pins", (x, a) -> x.pins(a[0], a[1])).one().of(0, 9)
            .refuses(NOBODY, (s, a) -> noOne(s, a[0]))
            .refuses(BELOW, (s, a) -> a[1] < 0)
            .refuses(ROOM, (s, a) -> a[1] > 9);
        changes("promise 11: turn", (x, a) -> x.turn(a[0], a[1], a[2])).one().of(0, 5).of(0, 9)
            .refuses(NOBODY, (s, a) -> noOne(s, a[0]))
            .refuses(OTHER, (s, a) -> a[1] < 0 || a[1] > 5)
            .refuses(BELOW, (s, a) -> a[2] < 0)
            .refuses(ROOM, (s, a) -> a[2] > 9);
        changes("promise 12: nights", (x, a) -> x.nights(a[0])).of(1, 60)
            .refuses(BELOW, (s, a) -> a[0] < 1)
            .refuses(ROOM, (s, a) -> a[0] > 60)
            .refuses(ROOM, (s, a) -> s.night + a[0] > 999);
    }

    private static void told13To20() {
        asks("promise 13: oneThen", (x, a) -> x.oneThen(a[0], a[1], a[2])).one().of(0, 60).of(0, 1)
            .refuses(NOBODY, (s, a) -> noOne(s, a[0]))
            .refuses(BELOW, (s, a) -> a[1] < 0)
            .refuses(ROOM, (s, a) -> a[1] > 60)
            .refuses(OTHER, (s, a) -> a[2] < 0 || a[2] > 1);
        asks("promise 14: aboard", (x, a) -> x.aboard(a[0])).of(0, 60)
            .refuses(BELOW, (s, a) -> a[0] < 0)
            .refuses(ROOM, (s, a) -> a[0] > 60);
        asks("promise 15: comes", (x, a) -> x.comes(a[0], a[1])).one().of(0, 23)
            .refuses(NOBODY, (s, a) -> noOne(s, a[0]))
            .refuses(NOBODY, (s, a) -> noTile(a[1]));
        asks("promise 16: sails", (x, a) -> x.sails(a[0])).of(-2, 6)
            .refuses(NOBODY, (s, a) -> a[0] != -1 && a[0] != -2 && noOne(s, a[0]));
        asks("promise 17: meets", (x, a) -> x.meets(a[0], a[1])).one().one()
            .refuses(NOBODY, (s, a) -> noOne(s, a[0]))
            .refuses(NOBODY, (s, a) -> noOne(s, a[1]))
            .refuses(NOBODY, (s, a) -> a[0] == a[1]);
        asks("promise 18: still", (x, a) -> x.still());
        asks("promise 19: far", (x, a) -> x.far(a[0], a[1])).of(0, 23).of(0, 23)
            .refuses(NOBODY, (s, a) -> noTile(a[0]))
            .refuses(NOBODY, (s, a) -> noTile(a[1]));
        asks("promise 20: cutOff", (x, a) -> x.cutOff());
    }

    private static void told21To29() {
        asks("promise 21: shipBest", (x, a) -> x.shipBest(a[0], a[1])).of(0, 20).of(0, 1)
            .refuses(BELOW, (s, a) -> a[0] < 0)
            .refuses(ROOM, (s, a) -> a[0] > 20)
            .refuses(OTHER, (s, a) -> a[1] < 0 || a[1] > 1);
        asks("promise 22: mend", (x, a) -> x.mend(a[0], a[1])).of(0, 20).of(0, 1)
            .refuses(BELOW, (s, a) -> a[0] < 0)
            .refuses(ROOM, (s, a) -> a[0] > 20)
            .refuses(OTHER, (s, a) -> a[1] < 0 || a[1] > 1);
        asks("promise 23: pin", (x, a) -> x.pin(a[0])).of(0, 20)
            .refuses(BELOW, (s, a) -> a[0] < 0)
            .refuses(ROOM, (s, a) -> a[0] > 20);
        asks("promise 24: fewest", (x, a) -> x.fewest(a[0])).of(0, 9)
            .refuses(BELOW, (s, a) -> a[0] < 0)
            .refuses(ROOM, (s, a) -> a[0] > 9);
        asks("promise 25: bestKind", (x, a) -> x.bestKind(a[0], a[1])).one().of(0, 1)
            .refuses(NOBODY, (s, a) -> noOne(s, a[0]))
            .refuses(OTHER, (s, a) -> a[1] < 0 || a[1] > 1);
        asks("promise 26: crowd", (x, a) -> x.crowd(a[0])).of(0, 6)
            .refuses(OTHER, (s, a) -> a[0] < 0 || a[0] > 6);
        asks("promise 27: farthest", (x, a) -> x.farthest(a[0])).of(0, 1)
            .refuses(OTHER, (s, a) -> a[0] < 0 || a[0] > 1);
        asks("promise 28: order", (x, a) -> x.order(a[0])).of(0, 6)
            .refuses(BELOW, (s, a) -> a[0] < 0);
        asks("promise 29: two", (x, a) -> x.two(a[0], a[1], a[2])).one().one().of(0, 9)
            .refuses(NOBODY, (s, a) -> noOne(s, a[0]))
            .refuses(NOBODY, (s, a) -> noOne(s, a[1]))
            .refuses(NOBODY, (s, a) -> a[0] == a[1])
            .refuses(BELOW, (s, a) -> a[2] < 0)
            .refuses(ROOM, (s, a) -> a[2] > 9);
    }

    private static void told30To39() {
        asksLong("promise 30: coals", (x, a) -> x.coals(a[0], a[1], a[2], a[3])).one().of(0, 7).of(2, 20).of(0, 1)
            .refuses(NOBODY, (s, a) -> noOne(s, a[0]))
            .refuses(BELOW, (s, a) -> a[1] < 0)
            .refuses(BELOW, (s, a) -> a[2] < 2)
            .refuses(ROOM, (s, a) -> a[1] > 7)
            .refuses(ROOM, (s, a) -> a[2] > 20)
            .refuses(OTHER, (s, a) -> a[3] < 0 || a[3] > 1);
        asksLong("promise 31: mean", (x, a) -> x.mean(a[0])).of(0, 1)
            .refuses(OTHER, (s, a) -> a[0] < 0 || a[0] > 1);
        asks("promise 32: whatIs", (x, a) -> x.whatIs(a[0], a[1])).one().of(0, 1)
            .refuses(NOBODY, (s, a) -> noOne(s, a[0]))
            .refuses(OTHER, (s, a) -> a[1] < 0 || a[1] > 1);
        changes("promise 33: row", (x, a) -> x.row(a[0])).of(0, 99)
            .refuses(BELOW, (s, a) -> a[0] < 0)
            .refuses(ROOM, (s, a) -> a[0] > 99)
            .refuses(ROOM, (s, a) -> s.row == 16);
        changes("promise 34: judge", (x, a) -> x.judge());
        changes("promise 35: clear", (x, a) -> x.clear());
        asks("promise 36: lots", (x, a) -> x.lots(a[0], a[1], a[2])).of(1, 20).of(0, 1).of(0, 1)
            .refuses(BELOW, (s, a) -> a[0] < 1)
            .refuses(ROOM, (s, a) -> a[0] > 20)
            .refuses(OTHER, (s, a) -> a[2] < 0 || a[2] > 1);
        changes("promise 37: image", (x, a) -> x.image());
        changes("promise 38: on", (x, a) -> x.on())
            .refuses(STATE, (s, a) -> !s.pictured);
        asks("promise 39: count", (x, a) -> x.count(a[0])).of(0, 16);
    }

    public static void main(String[] args) {
        told2To12();
        told13To20();
        told21To29();
        told30To39();
        CHECKS.about("promises 2 to 39");
        CHECKS.due("calls", PROMISES.size(), 38);
        for (Promise p : PROMISES) {
            CHECKS.test(p.name, () -> look(p));
        }
        for (State s : STATES) {
            CHECKS.test("all REFUSALS of " + s.name, () -> allNumbers(s));
        }
        CHECKS.end();
    }

    private static int[] numbersFor(int[] bound, State s) {
        int least = bound == null ? 0 : bound[0];
        int greatest = bound == null ? s.ones - 1 : bound[1];
        TreeSet<Integer> numbers = new TreeSet<>(List.of(Integer.MIN_VALUE, least - 1, least, greatest, greatest + 1, Integer.MAX_VALUE));
        return numbers.stream().mapToInt(i -> i).toArray();
    }

    private static void look(Promise p) {
        int[] toldTimes = new int[p.refusals.size()];
        int passed = 0;
        for (State s : STATES) {
            List<Integer> due = Telling.everything(s.made());
            int[] places = new int[p.bounds.size()];
            do {
                int[] a = new int[places.length];
                for (int i = 0; i < a.length; i++) {
                    a[i] = numbersFor(p.bounds.get(i), s)[places[i]];
                }
                int first = lookAt(p, s, a, due);
                if (first >= 0) {
                    toldTimes[first]++;
                } else {
                    passed++;
                }
            } while (next(places, p, s));
        }
        CHECKS.holds("some calls are not refused", passed > 0);
        for (int i = 0; i < toldTimes.length; i++) {
            CHECKS.holds("refusal " + i + " of this promise was never the first", toldTimes[i] > 0);
        }
    }

    private static boolean next(int[] places, Promise p, State s) {
        for (int i = 0; i < places.length; i++) {
            places[i]++;
            if (places[i] < numbersFor(p.bounds.get(i), s).length) {
                return true;
            }
            places[i] = 0;
        }
        return false;
    }

    /** Answers which refusal was due, or -1. */
    private static int lookAt(Promise p, State s, int[] a, List<Integer> due) {
        TilesGoAbout x = s.made();
        long got = p.call.on(x, a);
        int[] were = Telling.refusals(x);
        int first = p.first(s, a);
        String told = Arrays.toString(a) + " of " + s.name;
        int[] wereDue = new int[7];
        if (first >= 0) {
            int number = p.refusals.get(first).number;
            wereDue[-number] = 1;
            CHECKS.due(told, got, p.isLong ? LONG - number : number);
        } else {
            boolean likeRefusal = p.isLong ? got > LONG && got <= LONG + 6 : got < 0 && got > -7;
            CHECKS.holds(told + " is not to be refused, but answered " + got, !likeRefusal);
        }
        CHECKS.holds(told + ": REFUSALS then " + Arrays.toString(were), Arrays.equals(were, wereDue));
        if (first >= 0 || p.asks) {
            CHECKS.holds(told + " changed something", Telling.everything(x).equals(due));
        }
        return first;
    }

    /** One of each number after another on one object: each is counted by itself. */
    private static void allNumbers(State s) {
        TilesGoAbout x = s.made();
        int[] due = new int[7];
        for (int round = 1; round <= 3; round++) {
            x.cracks(24);
            x.mean(-1);
            x.crowd(7);
            x.order(-1);
            x.row(100);
            x.letter(256);
            x.coals(9, 0, 2, 0);
            due[1] += 2;
            due[2] += 2;
            due[4]++;
            due[6] += 2;
            if (!s.pictured) {
                x.on();
                due[3]++;
            }
            CHECKS.holds("REFUSALS " + Arrays.toString(Telling.refusals(x)), Arrays.equals(Telling.refusals(x), due));
        }
        CHECKS.holds("they changed nothing", Telling.everything(x).equals(Telling.everything(s.made())));
    }
}
