import java.util.Random;

/** Long runs of calls drawn by lot, each answer beside that of Model. */
public final class ModelTest {
    private static final int RUNS = 400;
    private static final int CALLS = 512;
    private static final Checks CHECKS = new Checks();

    public static void main(String[] args) {
        for (int run = 0; run < RUNS; run++) {
            CHECKS.about("run " + run);
            new ModelTest(run).run();
        }
        CHECKS.end();
    }

    private final Random lot;
    private final TilesGoAbout x = new TilesGoAbout();
    private final Model m = new Model();
    /** In every other run wrong arguments are rare, so that much stands. */
    private final int wrongInHundred;

    private ModelTest(int seed) {
        lot = new Random(seed);
        wrongInHundred = seed % 2 == 0 ? 3 : 15;
    }

    private void run() {
        int calls = 0;
        while (calls < CALLS - 110) {
            calls += lot.nextInt(12) == 0 ? tellChimney() : call(lot.nextInt(42));
        }
        for (int what = -1; what < 19; what++) {
            CHECKS.due("count(" + what + ") in the end", x.count(what), m.count(what));
        }
    }

    /** A number from 0 to greatest, now and then beyond. */
    private int upTo(int greatest) {
        if (lot.nextInt(100) < wrongInHundred) {
            int[] wrong = {-1, -2, -3, greatest + 1, greatest + 2, Integer.MAX_VALUE, Integer.MIN_VALUE};
            return wrong[lot.nextInt(wrong.length)];
        }
        return lot.nextInt(greatest + 1);
    }

    private int one() {
        return upTo(Math.max(0, m.w.ones.size() - 1));
    }

    private int far(int most) {
        return lot.nextInt(3) == 0 ? upTo(most) : upTo(Math.min(most, 9));
    }

    private int tellChimney() {
        StringBuilder text = new StringBuilder();
        int statements = 1 + lot.nextInt(6);
        for (int i = 0; i < statements; i++) {
            text.append(statement());
        }
        if (lot.nextInt(4) == 0) {
            int place = lot.nextInt(text.length());
            text.setCharAt(place, "lacspnkhfw019;z".charAt(lot.nextInt(15)));
        }
        if (lot.nextInt(8) == 0) {
            text.setLength(lot.nextInt(text.length() + 1));
        }
        for (int i = 0; i < text.length(); i++) {
            int c = text.charAt(i);
            CHECKS.due("letter(" + c + ")", x.letter(c), m.letter(c));
        }
        CHECKS.due("chimney() of " + m.text, x.chimney(), m.chimney());
        return text.length() + 1;
    }

    private String statement() {
        int tile = lot.nextInt(30) == 0 ? 24 + lot.nextInt(76) : lot.nextInt(24);
        int one = lot.nextInt(20) == 0 ? lot.nextInt(10) : lot.nextInt(Math.max(1, m.w.ones.size()));
        switch (lot.nextInt(7)) {
            case 0:
            case 1: return String.format("l%c%d%02d;", "khfswn".charAt(lot.nextInt(6)), lot.nextInt(10), tile);
            case 2: return String.format("a%d%02d;", one, tile);
            case 3: return String.format("c%02d;", tile);
            case 4: return String.format("s%02d;", tile);
            case 5: return String.format("p%d%d;", one, lot.nextInt(10));
            default: return String.format("n%02d;", lot.nextInt(10) == 0 ? lot.nextInt(100) : 1 + lot.nextInt(6));
        }
    }

    private int call(int which) {
        int a;
        int b;
        int c;
        int d;
        switch (which) {
            case 0: a = upTo(255); CHECKS.due("letter(" + a + ")", x.letter(a), m.letter(a)); break;
            case 1: CHECKS.due("chimney()", x.chimney(), m.chimney()); break;
            case 2: a = one(); b = upTo(6); CHECKS.due("little(" + a + ", " + b + ")", x.little(a, b), m.little(a, b)); break;
            case 3: a = upTo(23); b = upTo(1); CHECKS.due("tile(" + a + ", " + b + ")", x.tile(a, b), m.tile(a, b)); break;
            case 4:
            case 39:
                a = upTo(5); b = upTo(9); c = upTo(23);
                CHECKS.due("comesIn(" + a + ", " + b + ", " + c + ")", x.comesIn(a, b, c), m.comesIn(a, b, c)); break;
            case 5: a = one(); b = upTo(23); CHECKS.due("stands(" + a + ", " + b + ")", x.stands(a, b), m.stands(a, b)); break;
            case 6: a = upTo(23); CHECKS.due("cracks(" + a + ")", x.cracks(a), m.cracks(a)); break;
            case 7: a = upTo(23); CHECKS.due("ship(" + a + ")", x.ship(a), m.ship(a)); break;
            case 8: a = one(); b = upTo(9); CHECKS.due("pins(" + a + ", " + b + ")", x.pins(a, b), m.pins(a, b)); break;
            case 9:
                a = one(); b = upTo(5); c = upTo(9);
                CHECKS.due("turn(" + a + ", " + b + ", " + c + ")", x.turn(a, b, c), m.turn(a, b, c)); break;
            case 10:
            case 40: a = lot.nextInt(8) == 0 ? upTo(60) : 1 + lot.nextInt(4); CHECKS.due("nights(" + a + ")", x.nights(a), m.nights(a)); break;
            case 11:
                a = one(); b = far(60); c = upTo(1);
                CHECKS.due("oneThen(" + a + ", " + b + ", " + c + ")", x.oneThen(a, b, c), m.oneThen(a, b, c)); break;
            case 12: a = far(60); CHECKS.due("aboard(" + a + ")", x.aboard(a), m.aboard(a)); break;
            case 13: a = one(); b = upTo(23); CHECKS.due("comes(" + a + ", " + b + ")", x.comes(a, b), m.comes(a, b)); break;
            case 14: a = lot.nextInt(2) == 0 ? -1 - lot.nextInt(2) : one(); CHECKS.due("sails(" + a + ")", x.sails(a), m.sails(a)); break;
            case 15: a = one(); b = one(); CHECKS.due("meets(" + a + ", " + b + ")", x.meets(a, b), m.meets(a, b)); break;
            case 16: CHECKS.due("still()", x.still(), m.still()); break;
            case 17: a = upTo(23); b = upTo(23); CHECKS.due("far(" + a + ", " + b + ")", x.far(a, b), m.far(a, b)); break;
            case 18: CHECKS.due("cutOff()", x.cutOff(), m.cutOff()); break;
            case 19: a = upTo(20); b = upTo(1); CHECKS.due("shipBest(" + a + ", " + b + ")", x.shipBest(a, b), m.shipBest(a, b)); break;
            case 20: a = upTo(20); b = upTo(1); CHECKS.due("mend(" + a + ", " + b + ")", x.mend(a, b), m.mend(a, b)); break;
            case 21: a = upTo(20); CHECKS.due("pin(" + a + ")", x.pin(a), m.pin(a)); break;
            case 22: a = upTo(9); CHECKS.due("fewest(" + a + ")", x.fewest(a), m.fewest(a)); break;
            case 23: a = one(); b = upTo(1); CHECKS.due("bestKind(" + a + ", " + b + ")", x.bestKind(a, b), m.bestKind(a, b)); break;
            case 24: a = upTo(6); CHECKS.due("crowd(" + a + ")", x.crowd(a), m.crowd(a)); break;
            case 25: a = upTo(1); CHECKS.due("farthest(" + a + ")", x.farthest(a), m.farthest(a)); break;
            case 26: a = upTo(6); CHECKS.due("order(" + a + ")", x.order(a), m.order(a)); break;
            case 27:
                a = one(); b = one(); c = upTo(9);
                CHECKS.due("two(" + a + ", " + b + ", " + c + ")", x.two(a, b, c), m.two(a, b, c)); break;
            case 28:
                a = one(); b = upTo(7); c = 2 + upTo(18); d = upTo(1);
                CHECKS.due("coals(" + a + ", " + b + ", " + c + ", " + d + ")", x.coals(a, b, c, d), m.coals(a, b, c, d)); break;
            case 29: a = upTo(1); CHECKS.due("mean(" + a + ")", x.mean(a), m.mean(a)); break;
            case 30: a = one(); b = upTo(1); CHECKS.due("whatIs(" + a + ", " + b + ")", x.whatIs(a, b), m.whatIs(a, b)); break;
            case 31: a = lot.nextInt(2) == 0 ? upTo(99) : upTo(23); CHECKS.due("row(" + a + ")", x.row(a), m.row(a)); break;
            case 32: return tellTruly();
            case 33: CHECKS.due("judge()", x.judge(), m.judge()); break;
            case 34: CHECKS.due("clear()", x.clear(), m.clear()); break;
            case 35:
                a = upTo(20); b = lot.nextInt(); c = upTo(1);
                CHECKS.due("lots(" + a + ", " + b + ", " + c + ")", x.lots(a, b, c), m.lots(a, b, c)); break;
            case 36: CHECKS.due("image()", x.image(), m.image()); break;
            case 37: CHECKS.due("on()", x.on(), m.on()); break;
            default: a = upTo(18); CHECKS.due("count(" + a + ")", x.count(a), m.count(a)); break;
        }
        return 1;
    }

    /** A ROW that is so, or nearly: drawn numbers alone would hardly ever be. */
    private int tellTruly() {
        CHECKS.due("clear()", x.clear(), m.clear());
        int one = m.w.ones.isEmpty() ? -1 : lot.nextInt(m.w.ones.size());
        int many = 1 + lot.nextInt(8);
        boolean homes = lot.nextBoolean();
        for (int i = 0; i < many && one >= 0; i++) {
            int so = homes ? m.w.ones.get(i % m.w.ones.size()).home() : m.w.then(i).ones.get(one).tile();
            CHECKS.due("row(" + so + ")", x.row(so), m.row(so));
        }
        if (homes) {
            CHECKS.due("judge() of HOMES", x.judge(), m.judge());
        } else {
            CHECKS.due("whatIs(" + one + ", 0)", x.whatIs(one, 0), m.whatIs(one, 0));
            CHECKS.due("whatIs(" + one + ", 1)", x.whatIs(one, 1), m.whatIs(one, 1));
        }
        return many + 3;
    }
}
