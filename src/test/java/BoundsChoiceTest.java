/** Promises 19 to 25: a test for each sentence that names a boundary case; what is refused stands in RefusalsTest. */
public final class BoundsChoiceTest {
    private static final Checks CHECKS = new Checks();
    private static final String SEVEN = "lk000;lh100;lf200;ls300;lw400;ln500;lk600;";

    public static void main(String[] args) {
        farOverAll();
        farOverCracks();
        cutOff();
        shipBest();
        mend();
        spoil();
        pin();
        fewest();
        bestKind();
        CHECKS.end();
    }

    private static void test(String name, Runnable body) {
        CHECKS.test(name, body);
    }

    private static void due(String call, long got, long want) {
        CHECKS.due(call, got, want);
    }

    /** Changes every TILE: CRACKED, or not any more. */
    private static TilesGoAbout crackedAll(String statements) {
        TilesGoAbout x = Telling.made(statements);
        for (int tile = 0; tile < 24; tile++) {
            x.cracks(tile);
        }
        return x;
    }

    // ---- promise 19

    private static void farOverAll() {
        test("promise 19: of every two TILES, none CRACKED, 0 to itself", () -> {
            for (int tile = 0; tile < 24; tile++) {
                TilesGoAbout x = new TilesGoAbout();
                for (int other = 0; other < 24; other++) {
                    int rows = Math.abs(tile / 6 - other / 6);
                    int columns = Math.abs(tile % 6 - other % 6);
                    due("far(" + tile + ", " + other + ")", x.far(tile, other), rows + columns);
                }
            }
        });
        test("promise 19: TILES beyond, either", () -> {
            TilesGoAbout x = new TilesGoAbout();
            due("far(0, 23)", x.far(0, 23), 8);
            due("far(-1, 23)", x.far(-1, 23), -1);
            due("far(0, 24)", x.far(0, 24), -1);
            due("far(24, 0)", x.far(24, 0), -1);
            due("far(23, -1)", x.far(23, -1), -1);
            due("far(24, 24)", x.far(24, 24), -1);
        });
    }

    private static void farOverCracks() {
        test("promise 19: the first no matter, the last must not be", () -> {
            TilesGoAbout x = Telling.made("c00;");
            for (int other = 1; other < 24; other++) {
                due("from it to " + other, x.far(0, other), other / 6 + other % 6);
                due("to it from " + other, x.far(other, 0), -9);
            }
        });
        test("promise 19: 0 to itself, CRACKED or not", () -> {
            TilesGoAbout x = crackedAll("");
            for (int tile = 0; tile < 24; tile++) {
                due("CRACKED " + tile, x.far(tile, tile), 0);
                due("not CRACKED " + tile, new TilesGoAbout().far(tile, tile), 0);
            }
        });
        test("promise 19: all CRACKED, all but one", () -> {
            TilesGoAbout x = crackedAll("");
            due("far(0, 1)", x.far(0, 1), -9);
            due("far(1, 0)", x.far(1, 0), -9);
            x.cracks(1);
            due("to the one", x.far(0, 1), 1);
            due("to the one from farther", x.far(2, 1), 1);
            due("from two away", x.far(3, 1), -9);
            due("from the one", x.far(1, 0), -9);
        });
        test("promise 19: the longest way about", () -> {
            // Down column 0, up column 2, down column 4, up column 5.
            TilesGoAbout x = Telling.made("c01;c07;c13;c09;c15;c21;c05;c11;c17;c05;c11;c17;");
            due("far(0, 2)", x.far(0, 2), 8);
            due("far(0, 4)", x.far(0, 4), 10);
            due("far(0, 22)", x.far(0, 22), 13);
            due("far(0, 23)", x.far(0, 23), 14);
            due("far(23, 0)", x.far(23, 0), 14);
        });
        test("promise 19: the end of a row is not beside the next one's beginning", () -> {
            for (int end = 5; end < 23; end += 6) {
                TilesGoAbout x = Telling.made("c" + (end + 6) + ";c" + (end - 1) + ";" + (end > 5 ? "c" + (end - 6) + ";" : ""));
                due("far(" + end + ", " + (end + 1) + ")", x.far(end, end + 1), -9);
            }
        });
    }

    // ---- promise 20

    private static void cutOff() {
        test("promise 20: nobody, none and all seven", () -> {
            due("of nobody", new TilesGoAbout().cutOff(), 0);
            due("of nobody, all CRACKED", crackedAll("").cutOff(), 0);
            due("none", Telling.made(SEVEN).cutOff(), 0);
            due("all", Telling.made(SEVEN + "c01;c06;").cutOff(), 127);
            due("but the last", Telling.made(SEVEN + "c01;c06;a612;").cutOff(), 63);
        });
        test("promise 20: THE SHIP on a CRACKED TILE, and who is ABOARD there", () -> {
            due("cutOff()", Telling.made("lk000;lk023;lk022;c23;").cutOff(), 5);
            due("all CRACKED", crackedAll("lk000;lk023;lk022;").cutOff(), 5);
        });
        test("promise 20: one on a CRACKED TILE, the first no matter", () ->
            due("cutOff()", Telling.made("lk000;lk022;c00;c22;").cutOff(), 0));
    }

    // ---- promise 21

    private static void shipBest() {
        test("promise 21: of nobody TILE 0, and 0", () -> {
            due("shipBest(0, 0)", new TilesGoAbout().shipBest(0, 0), 0);
            due("shipBest(0, 1)", new TilesGoAbout().shipBest(0, 1), 0);
            due("shipBest(20, 0)", new TilesGoAbout().shipBest(20, 0), 0);
            due("shipBest(20, 1)", new TilesGoAbout().shipBest(20, 1), 0);
        });
        test("promise 21: all seven, on TILE 0 and on TILE 23", () -> {
            due("TILE 0", Telling.made(SEVEN).shipBest(0, 0), 0);
            due("how many", Telling.made(SEVEN).shipBest(0, 1), 7);
            TilesGoAbout x = Telling.made("lk023;lk023;lk022;s00;");
            due("TILE 23", x.shipBest(0, 0), 23);
            due("how many", x.shipBest(0, 1), 2);
        });
        test("promise 21: of several the least", () -> {
            due("two and two", Telling.made("lk009;lk004;lk009;lk004;").shipBest(0, 0), 4);
            due("one each", Telling.made("lk023;lk004;lk009;").shipBest(0, 0), 4);
        });
        test("promise 21: 0 and 20 NIGHTS, not -1 and 21", () -> {
            // The second can't go on; the first comes to him in NIGHT 20.
            TilesGoAbout x = Telling.made("lf800;lf902;c03;");
            due("shipBest(-1, 0)", x.shipBest(-1, 0), -4);
            due("shipBest(0, 0)", x.shipBest(0, 0), 0);
            due("shipBest(0, 1)", x.shipBest(0, 1), 1);
            due("shipBest(19, 0)", x.shipBest(19, 0), 0);
            due("shipBest(19, 1)", x.shipBest(19, 1), 1);
            due("shipBest(20, 0)", x.shipBest(20, 0), 2);
            due("shipBest(20, 1)", x.shipBest(20, 1), 2);
            due("shipBest(21, 0)", x.shipBest(21, 0), -6);
        });
        test("promise 21: what 0 and 1, not -1 and 2", () -> {
            TilesGoAbout x = Telling.made("lk009;");
            due("shipBest(0, -1)", x.shipBest(0, -1), -2);
            due("shipBest(0, 0)", x.shipBest(0, 0), 9);
            due("shipBest(0, 1)", x.shipBest(0, 1), 1);
            due("shipBest(0, 2)", x.shipBest(0, 2), -2);
        });
        test("promise 21: in thought NIGHT may pass 999", () -> {
            TilesGoAbout x = Telling.atNight(999);
            // 10 divides 1000, but not 999.
            Telling.tell(x, "lf808;lf909;c10;");
            due("shipBest(0, 0)", x.shipBest(0, 0), 8);
            due("shipBest(1, 0)", x.shipBest(1, 0), 9);
            due("shipBest(1, 1)", x.shipBest(1, 1), 2);
            due("NIGHT", x.count(1), 999);
        });
    }

    // ---- promise 22

    /** Three HOOPs go down before a SAILOR does, and onto his way to THE SHIP. */
    private static final String IN_THE_WAY = "lh007;lh007;lh007;ls012;s14;";

    private static void mend() {
        test("promise 22, MEND: none CRACKED, nobody there, all CRACKED", () -> {
            due("none CRACKED", Telling.made("ls022;").mend(5, 0), -9);
            due("nobody there", Telling.made("c22;").mend(5, 0), -9);
            due("a new object", new TilesGoAbout().mend(20, 0), -9);
            due("all CRACKED, two ways to be mended", crackedAll("ls022;").mend(20, 0), -9);
            TilesGoAbout x = crackedAll("ls022;");
            x.cracks(22);
            due("all CRACKED but his", x.mend(20, 0), 23);
            x.cracks(22);
            x.cracks(23);
            due("all CRACKED but THE SHIP's", x.mend(20, 0), 22);
        });
        test("promise 22, MEND: 0 and 20 NIGHTS, not -1 and 21", () -> {
            TilesGoAbout x = Telling.made("lf821;c22;");
            due("mend(-1, 0)", x.mend(-1, 0), -4);
            due("mend(0, 0)", x.mend(0, 0), -9);
            due("mend(19, 0)", x.mend(19, 0), -9);
            due("mend(20, 0)", x.mend(20, 0), 22);
            due("mend(21, 0)", x.mend(21, 0), -6);
        });
        test("promise 22, MEND: more than else, of several the least, TILES 0 and 23", () -> {
            due("no more", Telling.made("ls023;c22;c00;").mend(5, 0), -9);
            due("one more, either", Telling.made("ls021;ls011;c22;c17;").mend(2, 0), 17);
            due("one more, two more", Telling.made("ls021;ls021;ls011;c22;c17;").mend(2, 0), 22);
            due("TILE 0", Telling.made("ls001;s00;c00;").mend(1, 0), 0);
            due("TILE 23", Telling.made("ls022;c23;").mend(1, 0), 23);
        });
        test("promise 22, MEND: a CRACKED TILE, though more would be ABOARD by another's crack", () -> {
            TilesGoAbout x = Telling.made(IN_THE_WAY + "c19;");
            due("mend(2, 0)", x.mend(2, 0), -9);
            due("mend(3, 0)", x.mend(3, 0), 19);
            due("aboard(2)", x.aboard(2), 0);
            x.cracks(7);
            due("aboard(2), where they can't go", x.aboard(2), 8);
        });
        test("promise 22: what 0 and 1, not -1 and 2", () -> {
            TilesGoAbout x = Telling.made("ls022;");
            due("mend(1, -1)", x.mend(1, -1), -2);
            due("mend(1, 0)", x.mend(1, 0), -9);
            due("mend(1, 1)", x.mend(1, 1), 22);
            due("mend(1, 2)", x.mend(1, 2), -2);
        });
    }

    private static void spoil() {
        test("promise 22, SPOIL: nobody there, all CRACKED, none ABOARD", () -> {
            due("a new object", new TilesGoAbout().mend(20, 1), -9);
            due("all CRACKED", crackedAll("ls023;").mend(20, 1), -9);
            due("none ABOARD", Telling.made("lk000;").mend(20, 1), -9);
            due("ABOARD as it is", Telling.made("ls023;").mend(20, 1), -9);
        });
        test("promise 22, SPOIL: 0 and 20 NIGHTS, not -1 and 21", () -> {
            TilesGoAbout x = Telling.made("lf821;");
            due("mend(-1, 1)", x.mend(-1, 1), -4);
            due("mend(0, 1)", x.mend(0, 1), -9);
            due("mend(19, 1)", x.mend(19, 1), -9);
            due("mend(20, 1)", x.mend(20, 1), 21);
            due("mend(21, 1)", x.mend(21, 1), -6);
        });
        test("promise 22, SPOIL: a TILE not CRACKED, though fewer would be ABOARD without another's crack", () -> {
            TilesGoAbout x = Telling.made(IN_THE_WAY + "c19;c07;");
            due("mend(2, 1)", x.mend(2, 1), 12);
            x.cracks(7);
            due("aboard(2), where they can go", x.aboard(2), 0);
        });
        test("promise 22, SPOIL: fewer than as it is, of several the least, TILES 0 and 23", () -> {
            due("his own, the next, THE SHIP's", Telling.made("ls022;").mend(1, 1), 22);
            due("where he is CRACKED already", Telling.made("ls022;c22;").mend(1, 1), -9);
            due("one fewer by 21, two by 22", Telling.made("ls021;ls022;").mend(2, 1), 22);
            due("one fewer by 17, two by 22, three by 23", Telling.made("ls017;ls022;ls022;").mend(1, 1), 23);
            due("TILE 0", Telling.made("ls000;s01;").mend(1, 1), 0);
        });
    }

    // ---- promise 23

    private static void pin() {
        test("promise 23: of nobody, none ABOARD, the last of seven", () -> {
            due("pin(0) of nobody", new TilesGoAbout().pin(0), -9);
            due("pin(20) of nobody", new TilesGoAbout().pin(20), -9);
            due("none ABOARD", Telling.made("lk000;").pin(20), -9);
            due("the last", Telling.made("lk000;lk000;lk000;lk000;lk000;lk000;lk000;a623;").pin(0), 6);
            due("of seven the first", Telling.made(SEVEN + "a023;a123;a223;a323;a423;a523;a623;").pin(0), 0);
        });
        test("promise 23: 0 and 20 NIGHTS, not -1 and 21", () -> {
            // From NIGHT 2 he goes in NIGHTS 11 and 22, but PINNED until NIGHT 11 first in NIGHT 22.
            TilesGoAbout x = Telling.made("n02;lf921;");
            due("pin(-1)", x.pin(-1), -4);
            due("pin(0)", x.pin(0), -9);
            due("pin(19)", x.pin(19), -9);
            due("pin(20)", x.pin(20), 0);
            due("pin(21)", x.pin(21), -6);
        });
        test("promise 23: PINNED for 9 NIGHTS, and HOME", () -> {
            TilesGoAbout x = Telling.made("ls022;");
            due("pin(0)", x.pin(0), -9);
            due("pin(1)", x.pin(1), 0);
            due("pin(9)", x.pin(9), 0);
            due("pin(10), ABOARD in NIGHT 10", x.pin(10), -9);
            due("HOME far away", Telling.made("ls014;a023;").pin(0), 0);
            due("HOME is THE SHIP", Telling.made("ls023;").pin(0), -9);
        });
        test("promise 23: fewer than else, of several the least", () -> {
            due("the second alone", Telling.made("lk000;ls022;").pin(1), 1);
            due("each one fewer", Telling.made("ls022;ls022;ls017;").pin(1), 0);
            due("another comes for him", Telling.made("ls022;ls022;ls022;ls022;").pin(1), -9);
            due("two fewer with the second", Telling.made("ln022;ls022;").pin(2), 1);
            due("one more, not fewer", Telling.made(IN_THE_WAY + "c19;").pin(2), -9);
        });
    }

    // ---- promise 24

    private static void fewest() {
        test("promise 24: of nobody none, as of those who are never ABOARD", () -> {
            due("fewest(0) of nobody", new TilesGoAbout().fewest(0), 0);
            due("fewest(9) of nobody", new TilesGoAbout().fewest(9), 0);
            due("fewest(9)", Telling.made(SEVEN + "c00;").fewest(9), 0);
        });
        test("promise 24: all seven", () -> {
            due("fewest(1)", Telling.made("ls022;ls022;ls022;ls022;ls022;ls022;ls022;").fewest(1), 127);
            due("ABOARD now", Telling.made(SEVEN + "a023;a123;a223;a323;a423;a523;a623;").fewest(0), 127);
            due("the last alone", Telling.made(SEVEN + "c00;a623;").fewest(9), 64);
        });
        test("promise 24: 0 and 9 NIGHTS, not -1 and 10", () -> {
            // He goes in NIGHT 9.
            TilesGoAbout x = Telling.made("lf722;");
            due("fewest(-1)", x.fewest(-1), -4);
            due("fewest(0)", x.fewest(0), 0);
            due("fewest(8)", x.fewest(8), 0);
            due("fewest(9)", x.fewest(9), 1);
            due("fewest(10)", x.fewest(10), -6);
            due("ABOARD behind 0", Telling.made("ls000;a023;").fewest(0), 1);
            due("PINNED through all 9", Telling.made("ls022;").fewest(9), 1);
        });
        test("promise 24: -9 where HOME is THE SHIP", () -> {
            due("ABOARD", Telling.made("lk023;").fewest(0), -9);
            due("one of two", Telling.made("ls000;lk023;").fewest(0), -9);
            due("away, and never ABOARD", Telling.made("lk023;a000;").fewest(9), 0);
            due("away, and ABOARD behind 8", Telling.made("ls023;a000;").fewest(7), 0);
            due("away, and ABOARD behind 8", Telling.made("ls023;a000;").fewest(8), -9);
        });
        test("promise 24: the fewest before the least", () -> {
            // The first two are never ABOARD: one, and a greater number, is fewer than two.
            due("the third alone", Telling.made("lk000;lk000;ls022;").fewest(9), 4);
            // PINNED alone, the third keeps both NOBODIES waiting; else all three come.
            due("the third for all", Telling.made("ln022;ln023;a100;ls022;c00;").fewest(2), 4);
            due("both who come", Telling.made("ls021;ls022;").fewest(2), 3);
        });
        test("promise 24: of several the least", () -> {
            // A SAILOR's way goes over TILE 1, where two are; whoever is sent HOME there keeps him away, too.
            due("0, or the SAILOR 1", Telling.made("s02;lf901;ls000;lf901;lf901;a020;").fewest(5), 1);
            due("the SAILOR 0, or 3", Telling.made("s02;ls000;lf901;lf901;lf901;a320;").fewest(5), 1);
            due("the SAILOR 1, or 2", Telling.made("s02;lf901;ls000;lf901;lf901;a220;").fewest(5), 2);
        });
    }

    // ---- promise 25

    private static void bestKind() {
        test("promise 25: behind 0", () -> {
            for (int kind = 0; kind < 6; kind++) {
                TilesGoAbout x = Telling.made("l" + Telling.KINDS.charAt(kind) + "023;");
                due("bestKind(0, 0)", x.bestKind(0, 0), 0);
                due("bestKind(0, 1)", x.bestKind(0, 1), 0);
            }
        });
        test("promise 25: behind 60, but not behind 61", () -> {
            String among = "lh517;lf908;ln409;lf410;ln809;ls104;s07;";
            TilesGoAbout x = Telling.made("n10;" + among);
            int soonest = soonestByTurning(x, 60);
            due("as the one that is ABOARD behind 60", soonest >= 0 ? 60 : -9, 60);
            due("and none behind 59", soonestByTurning(x, 59), -9);
            due("bestKind(0, 0)", x.bestKind(0, 0), soonest);
            due("bestKind(0, 1)", x.bestKind(0, 1), 60);
            TilesGoAbout y = Telling.made("n09;" + among);
            due("none behind 60", soonestByTurning(y, 60), -9);
            due("never as 61: all alike", y.bestKind(0, 0), 0);
            due("never", y.bestKind(0, 1), -9);
            y.nights(1);
            due("but a NIGHT later", y.bestKind(0, 1), 60);
        });
        test("promise 25: never", () -> {
            due("bestKind(0, 0)", Telling.made("ln900;c00;").bestKind(0, 0), 0);
            due("bestKind(0, 1)", Telling.made("ln900;c00;").bestKind(0, 1), -9);
        });
        test("promise 25: of several the least, the last where it alone is soonest", () -> {
            due("HOOP and SAILOR, down", Telling.made("ln000;s06;").bestKind(0, 0), 1);
            due("SKATER and SAILOR, right", Telling.made("ln000;s01;").bestKind(0, 0), 0);
            due("SAILOR alone, left", Telling.made("lk001;s00;").bestKind(0, 0), 3);
            due("WIFE, later than a SAILOR", Telling.made("n01;lw001;s00;").bestKind(0, 1), 1);
        });
        test("promise 25: nobody, the last, what 0 and 1", () -> {
            TilesGoAbout x = Telling.made(SEVEN);
            due("bestKind(-1, 0)", x.bestKind(-1, 0), -1);
            due("bestKind(7, 0)", x.bestKind(7, 0), -1);
            due("bestKind(6, -1)", x.bestKind(6, -1), -2);
            due("bestKind(6, 0)", x.bestKind(6, 0), 1);
            due("bestKind(6, 1)", x.bestKind(6, 1), 8);
            due("bestKind(6, 2)", x.bestKind(6, 2), -2);
        });
    }

    /** The least KIND as which 0 is ABOARD behind n NIGHTS, by turning him to each and back; -9. */
    private static int soonestByTurning(TilesGoAbout x, int n) {
        int was = x.little(0, 0);
        int figure = x.little(0, 1);
        int found = -9;
        for (int kind = 5; kind >= 0; kind--) {
            x.turn(0, kind, figure);
            if ((x.aboard(n) & 1) == 1) {
                found = kind;
            }
        }
        x.turn(0, was, figure);
        return found;
    }
}
