import java.util.ArrayList;
import java.util.List;

/**
 * Promises 13 to 18: a test for each sentence that names a boundary case; what is refused stands in
 * RefusalsTest. "In thought NIGHT may pass 999" is looked at here for all that think.
 */
public final class BoundsMindTest {
    private static final Checks CHECKS = new Checks();
    private static final String SEVEN = "lk000;lh100;lf200;ls300;lw400;ln500;lk600;";
    /**
     * A FISHER who goes in NIGHTS 11, 22, .. and is PINNED for 9: from NIGHT 6 he misses NIGHT 11, and is on
     * TILE 5 in NIGHT 66, behind 60; from NIGHT 5 (PINNED until 14) behind 61.
     */
    private static final String BEHIND_60 = "n06;lf900;p09;";
    private static final String BEHIND_61 = "n05;lf900;p09;";

    public static void main(String[] args) {
        oneThen();
        aboard();
        comes();
        sails();
        first();
        allAboard();
        meets();
        still();
        beyondTheLastNight();
        CHECKS.end();
    }

    private static void test(String name, Runnable body) {
        CHECKS.test(name, body);
    }

    private static void due(String call, long got, long want) {
        CHECKS.due(call, got, want);
    }

    // ---- promise 13

    private static void oneThen() {
        test("promise 13: 0 and 60 NIGHTS on, not -1 and 61", () -> {
            TilesGoAbout x = Telling.made("lk003;");
            due("oneThen(0, -1, 0)", x.oneThen(0, -1, 0), -4);
            due("oneThen(0, 0, 0)", x.oneThen(0, 0, 0), 3);
            due("oneThen(0, 1, 0)", x.oneThen(0, 1, 0), 4);
            due("oneThen(0, 59, 0)", x.oneThen(0, 59, 0), 4);
            due("oneThen(0, 60, 0)", x.oneThen(0, 60, 0), 5);
            due("oneThen(0, 61, 0)", x.oneThen(0, 61, 0), -6);
        });
        test("promise 13: what 0 and 1, not -1 and 2", () -> {
            TilesGoAbout x = Telling.made("lk003;p02;");
            due("oneThen(0, 1, -1)", x.oneThen(0, 1, -1), -2);
            due("oneThen(0, 1, 0)", x.oneThen(0, 1, 0), 3);
            due("oneThen(0, 1, 1)", x.oneThen(0, 1, 1), 1);
            due("oneThen(0, 1, 2)", x.oneThen(0, 1, 2), -2);
        });
        test("promise 13: the first, the last, and nobody", () -> {
            TilesGoAbout x = Telling.made(SEVEN);
            due("oneThen(-1, 0, 0)", x.oneThen(-1, 0, 0), -1);
            due("oneThen(6, 0, 0)", x.oneThen(6, 0, 0), 0);
            due("oneThen(7, 0, 0)", x.oneThen(7, 0, 0), -1);
            due("of a new object", new TilesGoAbout().oneThen(0, 0, 0), -1);
        });
        test("promise 13: PINNED 9 becomes 0, and no less", () -> {
            TilesGoAbout x = Telling.made("lk000;p09;");
            for (int n = 0; n <= 60; n++) {
                due("oneThen(0, " + n + ", 1)", x.oneThen(0, n, 1), Math.max(0, 9 - n));
            }
            due("oneThen(0, 9, 0)", x.oneThen(0, 9, 0), 0);
            due("oneThen(0, 10, 0)", x.oneThen(0, 10, 0), 1);
        });
        test("promise 13: PINNED ABOARD he stays so", () -> {
            TilesGoAbout x = Telling.made("lk023;p09;");
            due("oneThen(0, 60, 1)", x.oneThen(0, 60, 1), 9);
        });
        test("promise 13: in thought NIGHT may pass 999", () -> {
            TilesGoAbout x = Telling.atNight(999);
            Telling.tell(x, "lf800;lf900;");
            // 10 divides 1000, 1010, .. 1050; 11 divides 1001, 1012, .. 1056.
            due("oneThen(0, 1, 0)", x.oneThen(0, 1, 0), 1);
            due("oneThen(1, 1, 0)", x.oneThen(1, 1, 0), 0);
            due("oneThen(1, 2, 0)", x.oneThen(1, 2, 0), 1);
            due("oneThen(0, 60, 0)", x.oneThen(0, 60, 0), 4);
            due("oneThen(1, 56, 0)", x.oneThen(1, 56, 0), 5);
            due("oneThen(1, 57, 0)", x.oneThen(1, 57, 0), 4);
            due("NIGHT", x.count(1), 999);
            due("nights(1)", x.nights(1), -6);
        });
    }

    // ---- promise 14

    private static void aboard() {
        test("promise 14: 0 and 60 NIGHTS on, not -1 and 61", () -> {
            TilesGoAbout x = Telling.made(BEHIND_60 + "s05;");
            due("aboard(-1)", x.aboard(-1), -4);
            due("aboard(0)", x.aboard(0), 0);
            due("aboard(59)", x.aboard(59), 0);
            due("aboard(60)", x.aboard(60), 1);
            due("aboard(61)", x.aboard(61), -6);
        });
        test("promise 14: nobody and all seven", () -> {
            due("aboard(0) of nobody", new TilesGoAbout().aboard(0), 0);
            due("aboard(60) of nobody", new TilesGoAbout().aboard(60), 0);
            TilesGoAbout x = Telling.made(SEVEN + "s00;");
            due("aboard(0) of all", x.aboard(0), 127);
            due("aboard(60) of all", x.aboard(60), 127);
            x.stands(6, 1);
            due("but the last", x.aboard(0), 63);
        });
    }

    // ---- promise 15

    private static void comes() {
        test("promise 15: behind 0, where he is now", () -> {
            for (int tile = 0; tile < 24; tile++) {
                due("comes(0, " + tile + ")", Telling.made("lk0" + tile + ";").comes(0, tile), 0);
            }
        });
        test("promise 15: behind 60, but not behind 61", () -> {
            due("behind 60", Telling.made(BEHIND_60).comes(0, 5), 60);
            due("behind 61", Telling.made(BEHIND_61).comes(0, 5), -9);
            due("the TILE ahead, behind 49", Telling.made(BEHIND_60).comes(0, 4), 49);
        });
        test("promise 15: first, though he comes again", () -> {
            TilesGoAbout x = Telling.made("lk000;");
            due("comes(0, 4)", x.comes(0, 4), 4);
            due("comes(0, 5)", x.comes(0, 5), 5);
        });
        test("promise 15: -9 where he never is", () -> {
            due("comes(0, 6)", Telling.made("lk000;").comes(0, 6), -9);
            due("behind THE SHIP", Telling.made("lk000;s03;").comes(0, 4), -9);
            due("over a crack", Telling.made("lk000;c01;").comes(0, 1), -9);
        });
        test("promise 15: TILES and ones at the bounds", () -> {
            TilesGoAbout x = Telling.made(SEVEN + "a623;");
            due("comes(6, 23)", x.comes(6, 23), 0);
            due("comes(6, 24)", x.comes(6, 24), -1);
            due("comes(6, -1)", x.comes(6, -1), -1);
            due("comes(7, 0)", x.comes(7, 0), -1);
            due("comes(-1, 0)", x.comes(-1, 0), -1);
        });
        test("promise 15: in thought NIGHT may pass 999", () -> {
            TilesGoAbout x = Telling.atNight(999);
            x.comesIn(2, 8, 0);
            due("comes(0, 5)", x.comes(0, 5), 41);
        });
    }

    // ---- promise 16

    private static void sails() {
        test("promise 16, SAILS: behind 0, 60 and 61, and never", () -> {
            due("ABOARD now", Telling.made("ls023;").sails(0), 0);
            due("behind 1", Telling.made("ls022;").sails(0), 1);
            due("behind 60", Telling.made(BEHIND_60 + "s05;").sails(0), 60);
            due("behind 61", Telling.made(BEHIND_61 + "s05;").sails(0), -9);
            due("never", Telling.made("lk000;").sails(0), -9);
        });
        test("promise 16: one from -2 to the last, nobody beyond", () -> {
            TilesGoAbout x = Telling.made(SEVEN + "a623;");
            due("sails(-3)", x.sails(-3), -1);
            due("sails(-2)", x.sails(-2), -9);
            due("sails(-1)", x.sails(-1), 6);
            due("sails(0)", x.sails(0), -9);
            due("sails(6)", x.sails(6), 0);
            due("sails(7)", x.sails(7), -1);
            due("REFUSALS", x.count(11), 2);
        });
    }

    private static void first() {
        test("promise 16, FIRST: of nobody -9, not refused", () -> {
            TilesGoAbout x = new TilesGoAbout();
            due("sails(-1)", x.sails(-1), -9);
            due("REFUSALS", x.count(11), 0);
        });
        test("promise 16, FIRST: behind 0, 60 and 61", () -> {
            due("ABOARD now", Telling.made("lk000;ls023;").sails(-1), 1);
            due("behind 60", Telling.made(BEHIND_60 + "s05;").sails(-1), 0);
            due("behind 61", Telling.made(BEHIND_61 + "s05;").sails(-1), -9);
        });
        test("promise 16, FIRST: of several the least, by NIGHTS and not by numbers", () -> {
            due("in one NIGHT", Telling.made("lk000;ls022;ls022;ls017;").sails(-1), 1);
            due("a greater before a lesser", Telling.made("ls021;ls022;").sails(-1), 1);
            due("all seven ABOARD", Telling.made(SEVEN + "s00;").sails(-1), 0);
        });
    }

    private static void allAboard() {
        test("promise 16, ALL ABOARD: 0 of none", () -> {
            TilesGoAbout x = new TilesGoAbout();
            due("sails(-2)", x.sails(-2), 0);
            due("REFUSALS", x.count(11), 0);
        });
        test("promise 16, ALL ABOARD: behind 0, 60 and 61", () -> {
            due("all seven now", Telling.made(SEVEN + "s00;").sails(-2), 0);
            due("but one", Telling.made("lk000;lh000;ls006;s00;").sails(-2), 1);
            due("but one for whom three leave no room", Telling.made(SEVEN + "s00;a306;").sails(-2), -9);
            due("but one who never is", Telling.made("lk006;lh000;ls000;s00;").sails(-2), -9);
            due("behind 60", Telling.made(BEHIND_60 + "lk005;s05;").sails(-2), 60);
            due("behind 61", Telling.made(BEHIND_61 + "lk005;s05;").sails(-2), -9);
        });
    }

    // ---- promise 17

    private static void meets() {
        test("promise 17: behind 0, 60 and 61, and never", () -> {
            due("now", Telling.made("lk005;ls005;").meets(0, 1), 0);
            due("behind 1", Telling.made("lk000;ls001;s00;").meets(0, 1), 1);
            due("behind 60", Telling.made(BEHIND_60 + "ln005;s05;").meets(0, 1), 60);
            due("behind 60, the other way round", Telling.made(BEHIND_60 + "ln005;s05;").meets(1, 0), 60);
            due("behind 61", Telling.made(BEHIND_61 + "ln005;s05;").meets(0, 1), -9);
            due("never", Telling.made("lk000;lk006;").meets(0, 1), -9);
        });
        test("promise 17: passing one another is not meeting", () ->
            due("meets(0, 1)", Telling.made("lk001;ls002;s00;").meets(0, 1), -9));
        test("promise 17: AT one TILE behind a NIGHT, not within it", () ->
            // 0 comes where 1 is still; then 1 goes on.
            due("meets(0, 1)", Telling.made("lk000;lk001;s03;").meets(0, 1), 3));
        test("promise 17: one twice, nobody, the first and the last", () -> {
            TilesGoAbout x = Telling.made(SEVEN);
            due("meets(0, 0)", x.meets(0, 0), -1);
            due("meets(6, 6)", x.meets(6, 6), -1);
            due("meets(7, 7)", x.meets(7, 7), -1);
            due("meets(0, 6)", x.meets(0, 6), 0);
            due("meets(6, 0)", x.meets(6, 0), 0);
            due("meets(0, 7)", x.meets(0, 7), -1);
            due("meets(7, 0)", x.meets(7, 0), -1);
            due("meets(-1, 0)", x.meets(-1, 0), -1);
            due("meets(0, -1)", x.meets(0, -1), -1);
            due("REFUSALS", x.count(11), 7);
        });
    }

    // ---- promise 18

    private static void still() {
        test("promise 18: 0 of nobody, and where nobody can go", () -> {
            due("of nobody", new TilesGoAbout().still(), 0);
            due("all ABOARD", Telling.made(SEVEN + "s00;").still(), 0);
            due("on a CRACKED TILE", Telling.made(SEVEN + "c00;").still(), 0);
        });
        test("promise 18: the least n", () -> {
            for (int tile = 18; tile <= 23; tile++) {
                due("SAILOR from " + tile, Telling.made("ls0" + tile + ";").still(), 23 - tile);
            }
        });
        test("promise 18: 12 NIGHTS, not 11", () -> {
            // PINNED in NIGHTS 10 .. 18, he goes in NIGHT 22: 12 without between.
            due("12 without", Telling.made("n09;lf900;p09;").still(), 0);
            due("13 without", Telling.made("n08;lf900;p09;").still(), 0);
            due("11 without", Telling.made("n10;lf900;p09;").still(), -9);
            due("11 without, then ABOARD", Telling.made("n10;lf900;p09;s01;").still(), 12);
            due("12 without, then ABOARD", Telling.made("n09;lf900;p09;s01;").still(), 0);
        });
        test("promise 18: behind 60, but not behind 61", () -> {
            // The SAILOR goes until the FISHER has begun, so that never 12 NIGHTS are without between.
            due("behind 60", Telling.made(BEHIND_60 + "s05;ls018;").still(), 60);
            due("behind 61", Telling.made(BEHIND_61 + "s05;ls018;").still(), -9);
            due("never", Telling.made("lk000;").still(), -9);
        });
        test("promise 18: becoming less PINNED is not going", () -> {
            due("SAILOR", Telling.made("ls022;p09;").still(), 10);
            due("on a CRACKED TILE", Telling.made("ls022;p09;c22;").still(), 0);
        });
        test("promise 18: in thought NIGHT may pass 999", () -> {
            TilesGoAbout x = Telling.atNight(999);
            Telling.tell(x, "lf822;");
            due("still()", x.still(), 1);
            due("NIGHT", x.count(1), 999);
        });
        test("promise 25: in thought NIGHT may pass 999", () -> {
            TilesGoAbout x = Telling.atNight(999);
            // In NIGHT 1000 three FISHERs leave room for him.
            Telling.tell(x, "lf807;lf807;lf807;lk001;s13;");
            due("bestKind(3, 0)", x.bestKind(3, 0), 1);
            due("bestKind(3, 1)", x.bestKind(3, 1), 2);
            due("NIGHT", x.count(1), 999);
        });
    }

    // ---- in thought NIGHT may pass 999

    interface Asked {
        void of(TilesGoAbout x, List<Long> answers);
    }

    /** In 990 NIGHTS the WIFE has as many even ones as odd, and 2 more than each FIGURE told here divides 990. */
    private static TilesGoAbout atNight(int night) {
        TilesGoAbout x = Telling.atNight(night);
        Telling.tell(x, "lf800;lf911;lw013;lf718;lf420;ln522;lf314;p32;c09;s16;");
        Telling.row(x, 11, 11, 11, 10);
        return x;
    }

    private static void asAt9(String promise, Asked asked) {
        test(promise + ": in thought NIGHT may pass 999, and all goes as 990 NIGHTS before", () -> {
            List<Long> late = new ArrayList<>();
            List<Long> early = new ArrayList<>();
            TilesGoAbout x = atNight(999);
            asked.of(x, late);
            asked.of(atNight(9), early);
            CHECKS.holds("answers " + late + " are not " + early, late.equals(early));
            due("NIGHT", x.count(1), 999);
            due("nights(1)", x.nights(1), -6);
        });
    }

    private static void beyondTheLastNight() {
        asAt9("promise 4", (x, all) -> eachOne(one -> all.add((long) x.little(one, 6))));
        asAt9("promise 13", (x, all) -> eachOne(one -> {
            for (int n = 0; n <= 60; n++) {
                all.add((long) x.oneThen(one, n, 0));
            }
        }));
        asAt9("promise 14", (x, all) -> upTo(60, n -> all.add((long) x.aboard(n))));
        asAt9("promise 15", (x, all) -> eachOne(one -> upTo(23, tile -> all.add((long) x.comes(one, tile)))));
        asAt9("promise 16", (x, all) -> upTo(8, one -> all.add((long) x.sails(one - 2))));
        asAt9("promise 17", (x, all) -> eachOne(one -> eachOne(other -> all.add((long) x.meets(one, other)))));
        asAt9("promise 18", (x, all) -> all.add((long) x.still()));
        asAt9("promise 21", (x, all) -> upTo(20, n -> upTo(1, what -> all.add((long) x.shipBest(n, what)))));
        asAt9("promise 22", (x, all) -> upTo(20, n -> upTo(1, what -> all.add((long) x.mend(n, what)))));
        asAt9("promise 23", (x, all) -> upTo(20, n -> all.add((long) x.pin(n))));
        asAt9("promise 24", (x, all) -> upTo(9, n -> all.add((long) x.fewest(n))));
        asAt9("promise 25", (x, all) -> eachOne(one -> upTo(1, what -> all.add((long) x.bestKind(one, what)))));
        asAt9("promise 29", (x, all) -> eachOne(one -> eachOne(other -> upTo(9, n -> {
            if (one < other) {
                all.add((long) x.two(one, other, n));
            }
        }))));
        asAt9("promise 30", (x, all) -> eachOne(one -> upTo(7, n -> all.add(x.coals(one, n, 3, 0)))));
        // FIGURES 2, 5 and 6 are left out: 4, 7 and 8 do not divide 990.
        asAt9("promise 32", (x, all) -> eachOne(one -> {
            all.add((long) x.whatIs(one, 0));
            all.add((long) x.whatIs(one, 1) & ~(1 << 2 | 1 << 5 | 1 << 6));
        }));
        asAt9("promise 36", (x, all) -> upTo(19, n -> upTo(1, what -> all.add((long) x.lots(n + 1, n, what)))));
    }

    interface Number {
        void is(int number);
    }

    private static void upTo(int greatest, Number number) {
        for (int i = 0; i <= greatest; i++) {
            number.is(i);
        }
    }

    private static void eachOne(Number number) {
        upTo(6, number);
    }
}
