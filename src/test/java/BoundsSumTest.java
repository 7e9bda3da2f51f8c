/** Promises 26 to 36: a test for each sentence that names a boundary case; what is refused stands in RefusalsTest. */
public final class BoundsSumTest {
    private static final Checks CHECKS = new Checks();
    private static final long LONG = 4000000000000000000L;
    private static final String SEVEN = "lk000;lh100;lf200;ls300;lw400;ln500;lk600;";

    public static void main(String[] args) {
        crowd();
        homesLostAndPins();
        besideAndEmpty();
        farthest();
        order();
        two();
        coals();
        coalsOverCracks();
        mean();
        whatIs();
        row();
        judge();
        clear();
        lots();
        draws();
        CHECKS.end();
    }

    private static void test(String name, Runnable body) {
        CHECKS.test(name, body);
    }

    private static void due(String call, long got, long want) {
        CHECKS.due(call, got, want);
    }

    // ---- promise 26

    private static void crowd() {
        test("promise 26, CROWD: of nobody TILE 0, and 0", () -> {
            due("crowd(0)", new TilesGoAbout().crowd(0), 0);
            due("crowd(1)", new TilesGoAbout().crowd(1), 0);
        });
        test("promise 26, CROWD: all seven on any one TILE", () -> {
            for (int tile = 0; tile < 24; tile++) {
                TilesGoAbout x = new TilesGoAbout();
                for (int i = 0; i < 7; i++) {
                    x.comesIn(0, 0, tile);
                    due("crowd(0)", x.crowd(0), tile);
                    due("crowd(1)", x.crowd(1), i + 1);
                }
            }
        });
        test("promise 26, CROWD: of several the least, whoever is there", () -> {
            due("one each", Telling.made("lk023;lk005;lk009;").crowd(0), 5);
            due("two and two", Telling.made("lk009;lk009;lk000;lk004;lk004;").crowd(0), 4);
            due("two and three", Telling.made("lk004;lk004;lk009;lk009;lk009;").crowd(0), 9);
            due("three and four", Telling.made("lk023;lk023;lk000;lk000;lk023;lk000;lk023;").crowd(0), 23);
        });
        test("promise 26: what 0 to 6, not -1 and 7", () -> {
            TilesGoAbout x = Telling.made("lk009;");
            due("crowd(-1)", x.crowd(-1), -2);
            due("crowd(0)", x.crowd(0), 9);
            due("crowd(6)", x.crowd(6), Telling.EVERY_TILE - (1 << 9));
            due("crowd(7)", x.crowd(7), -2);
        });
    }

    private static void homesLostAndPins() {
        test("promise 26, HOMES: of nobody, none to all seven", () -> {
            due("of nobody", new TilesGoAbout().crowd(2), 0);
            TilesGoAbout x = Telling.made(SEVEN);
            for (int away = 0; away < 7; away++) {
                due(away + " away", x.crowd(2), 7 - away);
                x.stands(away, 23);
            }
            due("all away", x.crowd(2), 0);
        });
        test("promise 26, LOST: of nobody, none to all seven", () -> {
            TilesGoAbout x = new TilesGoAbout();
            due("of nobody", x.crowd(3), 0);
            Telling.tell(x, "lk000;lk001;lk002;lk003;lk004;lk022;lk023;a005;");
            int[] homes = {0, 1, 2, 3, 4, 22, 23};
            for (int i = 0; i < 7; i++) {
                due(i + " CRACKED", x.crowd(3), i);
                x.cracks(homes[i]);
            }
            due("all CRACKED", x.crowd(3), 7);
            due("where he is, not his HOME", Telling.made("lk000;a005;c05;").crowd(3), 0);
        });
        test("promise 26, PINS: of nobody, none to all seven, by 1 NIGHT too, by 0 not", () -> {
            due("of nobody", new TilesGoAbout().crowd(4), 0);
            TilesGoAbout x = Telling.made(SEVEN);
            for (int i = 0; i < 7; i++) {
                due(i + " PINNED", x.crowd(4), i);
                x.pins(i, i + 1);
            }
            due("all PINNED", x.crowd(4), 7);
            due("a NIGHT later", later(x, 1).crowd(4), 6);
            x.pins(6, 0);
            due("one by 0", x.crowd(4), 5);
        });
    }

    private static TilesGoAbout later(TilesGoAbout x, int n) {
        x.nights(n);
        return x;
    }

    private static void besideAndEmpty() {
        test("promise 26, BESIDE: each two TILES", () -> {
            for (int tile = 0; tile < 24; tile++) {
                for (int other = 0; other < 24; other++) {
                    boolean inRow = tile / 6 == other / 6 && Math.abs(tile - other) == 1;
                    boolean inColumn = Math.abs(tile - other) == 6;
                    due("BESIDE of " + tile + " and " + other, Telling.made("lk0" + tile + ";lk0" + other + ";").crowd(5),
                        inRow || inColumn ? 1 : 0);
                }
            }
        });
        test("promise 26, BESIDE: nobody, one, all seven", () -> {
            due("nobody", new TilesGoAbout().crowd(5), 0);
            due("one", Telling.made("lk005;").crowd(5), 0);
            due("seven on a TILE", Telling.made(SEVEN).crowd(5), 0);
            due("three beside four", Telling.made(SEVEN + "a001;a101;a201;").crowd(5), 12);
            due("seven in a ring and one within", Telling.made("lk000;lk001;lk002;lk006;lk007;lk008;lk013;").crowd(5), 8);
        });
        test("promise 26, EMPTY: all, none but those, each TILE", () -> {
            due("of nobody", new TilesGoAbout().crowd(6), Telling.EVERY_TILE);
            for (int tile = 0; tile < 24; tile++) {
                due("one on " + tile, Telling.made("lk0" + tile + ";").crowd(6), Telling.EVERY_TILE - (1 << tile));
            }
            due("seven on a TILE", Telling.made(SEVEN).crowd(6), Telling.EVERY_TILE - 1);
            due("seven on seven", Telling.made("lk000;lk001;lk002;lk003;lk021;lk022;lk023;").crowd(6), Telling.EVERY_TILE - 0xe0000f);
        });
    }

    // ---- promises 27 and 28

    private static void farthest() {
        test("promise 27: of nobody -9, both", () -> {
            due("farthest(0)", new TilesGoAbout().farthest(0), -9);
            due("farthest(1)", new TilesGoAbout().farthest(1), -9);
        });
        test("promise 27: 0 to 8, by rows and columns", () -> {
            for (int home = 0; home < 24; home++) {
                for (int tile = 0; tile < 24; tile++) {
                    TilesGoAbout x = Telling.made("lk0" + home + ";a0" + tile + ";");
                    due("who", x.farthest(0), 0);
                    due("how far", x.farthest(1), Math.abs(home / 6 - tile / 6) + Math.abs(home % 6 - tile % 6));
                }
            }
        });
        test("promise 27: of several the least, all HOME, the last of seven", () -> {
            due("all HOME", Telling.made(SEVEN).farthest(0), 0);
            due("all HOME", Telling.made(SEVEN).farthest(1), 0);
            due("two alike", Telling.made("lk000;lk009;lk014;a110;a213;").farthest(0), 1);
            TilesGoAbout x = Telling.made(SEVEN + "a522;a623;");
            due("the last", x.farthest(0), 6);
            due("how far", x.farthest(1), 8);
        });
        test("promise 27: what 0 and 1, not -1 and 2", () -> {
            TilesGoAbout x = Telling.made("lk000;a007;");
            due("farthest(-1)", x.farthest(-1), -2);
            due("farthest(0)", x.farthest(0), 0);
            due("farthest(1)", x.farthest(1), 2);
            due("farthest(2)", x.farthest(2), -2);
        });
    }

    private static void order() {
        test("promise 28: of nobody, and with all ABOARD", () -> {
            due("of nobody", new TilesGoAbout().order(0), -9);
            due("all ABOARD", Telling.made(SEVEN + "s00;").order(0), -9);
        });
        test("promise 28: 0 to the last, -9 beyond, -1 refused", () -> {
            TilesGoAbout x = Telling.made("lk000;lk001;lk002;lk003;lk004;lk005;lk011;");
            due("order(-1)", x.order(-1), -4);
            for (int i = 0; i < 7; i++) {
                due("order(" + i + ")", x.order(i), 6 - i);
            }
            due("order(7)", x.order(7), -9);
            due("order(HUGE)", x.order(Telling.HUGE), -9);
            due("order(TINY)", x.order(Telling.TINY), -4);
            x.stands(3, 23);
            int[] want = {6, 5, 4, 2, 1, 0, -9};
            for (int i = 0; i < 7; i++) {
                due("without the one ABOARD: order(" + i + ")", x.order(i), want[i]);
            }
        });
        test("promise 28: alike by numbers", () -> {
            TilesGoAbout x = Telling.made("lk009;lk004;lk013;lk004;lk009;lk013;lk007;s08;");
            int[] want = {0, 4, 6, 2, 5, 1, 3, -9};
            for (int i = 0; i < want.length; i++) {
                due("order(" + i + ")", x.order(i), want[i]);
            }
            due("all seven alike", Telling.made(SEVEN).order(6), 6);
        });
    }

    // ---- promise 29

    private static void two() {
        test("promise 29: 0 and 9 NIGHTS, not -1 and 10", () -> {
            // Both go in NIGHT 9.
            TilesGoAbout x = Telling.made("lf722;lf722;");
            due("two(0, 1, -1)", x.two(0, 1, -1), -4);
            due("two(0, 1, 0)", x.two(0, 1, 0), 0);
            due("two(0, 1, 8)", x.two(0, 1, 8), 0);
            due("two(0, 1, 9)", x.two(0, 1, 9), 11);
            due("two(0, 1, 10)", x.two(0, 1, 10), -6);
        });
        test("promise 29: one twice, nobody, the first and the last", () -> {
            TilesGoAbout x = Telling.made(SEVEN);
            due("two(0, 0, 5)", x.two(0, 0, 5), -1);
            due("two(6, 6, 5)", x.two(6, 6, 5), -1);
            due("two(7, 0, 5)", x.two(7, 0, 5), -1);
            due("two(0, 7, 5)", x.two(0, 7, 5), -1);
            due("two(-1, 0, 5)", x.two(-1, 0, 5), -1);
            due("two(0, -1, 5)", x.two(0, -1, 5), -1);
            due("two(0, 6, 0)", x.two(0, 6, 0), 0);
            due("two(6, 0, 0)", x.two(6, 0, 0), 0);
        });
        test("promise 29: the first pair: 0, 1, 10, 11", () -> {
            due("alike whatever they do", Telling.made("lk000;lk006;").two(0, 1, 9), 0);
            due("the other alone comes ABOARD", Telling.made("lk000;ls022;").two(0, 1, 9), 1);
            due("the first alone comes ABOARD", Telling.made("ls022;lk000;").two(0, 1, 9), 10);
            due("both come ABOARD", Telling.made("ls022;ls022;").two(0, 1, 9), 11);
            due("room for one: the first by number", Telling.made("ls022;ls022;lk023;lk023;").two(0, 1, 1), 10);
            due("room for one: the other by number", Telling.made("ls022;ls022;lk023;lk023;").two(1, 0, 1), 1);
        });
        test("promise 29: who stays does so for n NIGHTS where he is", () -> {
            due("not HOME", Telling.made("ls000;ls000;a023;").two(0, 1, 1), 0);
            due("going on, who is PINNED stays too", Telling.made("ls022;lk000;p05;").two(0, 1, 5), 0);
            due("but not for longer", Telling.made("ls022;lk000;p05;").two(0, 1, 6), 10);
        });
        test("promise 29: 5 for being ABOARD is more than 2 others, less than 3", () -> {
            pairs("lf121;lf622;ln122;ls303;lh603;s23;", 0, 1, 6, 10);
            pairs("ls023;lw217;lh104;lw317;lf623;s11;", 0, 1, 8, 10);
            // Going on, 3 alone is ABOARD; while he stays, three others are.
            pairs("lw718;lk518;lk618;lw218;ln319;p15;p25;s21;", 3, 4, 8, 0);
        });
        test("promise 29: -9, if there is no such pair", () -> {
            pairs("ls823;ls617;ls516;lw711;ln110;lw505;ln010;p02;p13;p26;s09;", 5, 3, 8, -9);
        });
    }

    /** All are HOME, so that PINS let one stay where he is: the answer is looked for by these, too. */
    private static void pairs(String statements, int a, int b, int n, int want) {
        TilesGoAbout x = Telling.made(statements);
        String call = "two(" + a + ", " + b + ", " + n + ") of " + statements;
        due("by PINS, " + call, byPins(statements, a, b, n), want);
        due(call, x.two(a, b, n), want);
        due(call + ", the other first", x.two(b, a, n), byPins(statements, b, a, n));
        due("REFUSALS", x.count(11) + x.count(14) + x.count(16), 0);
    }

    private static int byPins(String statements, int a, int b, int n) {
        int[] first = new int[4];
        int[] other = new int[4];
        for (int pair = 0; pair < 4; pair++) {
            TilesGoAbout x = Telling.made(statements);
            if (pair < 2) {
                x.pins(a, n);
            }
            if (pair % 2 == 0) {
                x.pins(b, n);
            }
            first[pair] = worth(x.aboard(n), a);
            other[pair] = worth(x.aboard(n), b);
        }
        int[] alone = {2, 3, 0, 1};
        int[] otherAlone = {1, 0, 3, 2};
        for (int pair = 0; pair < 4; pair++) {
            if (first[alone[pair]] <= first[pair] && other[otherAlone[pair]] <= other[pair]) {
                return 10 * (pair / 2) + pair % 2;
            }
        }
        return -9;
    }

    private static int worth(int aboard, int one) {
        int others = Integer.bitCount(aboard & ~(1 << one));
        return (aboard >> one & 1) == 1 ? 5 + 2 * others : 2 * others;
    }

    // ---- promise 30

    private static void likely(TilesGoAbout x, int n, int t, long above, long below) {
        due("coals(0, " + n + ", " + t + ", 0)", x.coals(0, n, t, 0), above);
        due("coals(0, " + n + ", " + t + ", 1)", x.coals(0, n, t, 1), below);
    }

    private static void coals() {
        test("promise 30: 0 NIGHTS: 0 by 1, or 1 by 1", () -> {
            for (int t : new int[] {2, 20}) {
                likely(Telling.made("ls022;"), 0, t, 0, 1);
                likely(Telling.made("ls023;"), 0, t, 1, 1);
            }
        });
        test("promise 30: 0 and 7 NIGHTS, not -1 and 8", () -> {
            // 1 less the odds of coals in each of the last NIGHTS in which he could come.
            TilesGoAbout x = Telling.made("ls006;");
            due("coals(0, -1, 2, 0)", x.coals(0, -1, 2, 0), LONG + 4);
            likely(x, 0, 2, 0, 1);
            likely(x, 6, 2, 0, 1);
            likely(x, 7, 2, 1, 2);
            likely(x, 7, 20, 19, 20);
            due("coals(0, 8, 2, 0)", x.coals(0, 8, 2, 0), LONG + 6);
            likely(Telling.made("ls000;"), 7, 2, 0, 1);
        });
        test("promise 30: odds 1 in 2 and 1 in 20, not 1 and 21", () -> {
            TilesGoAbout x = Telling.made("ls022;");
            due("coals(0, 7, 1, 0)", x.coals(0, 7, 1, 0), LONG + 4);
            due("coals(0, 7, 0, 0)", x.coals(0, 7, 0, 0), LONG + 4);
            due("coals(0, 7, -1, 0)", x.coals(0, 7, -1, 0), LONG + 4);
            likely(x, 7, 2, 127, 128);
            likely(x, 7, 3, 2186, 2187);
            likely(x, 7, 19, 893871738L, 893871739L);
            likely(x, 7, 20, 1279999999L, 1280000000L);
            due("coals(0, 7, 21, 0)", x.coals(0, 7, 21, 0), LONG + 6);
        });
        test("promise 30: in least terms", () -> {
            // 1 of 4, 2 of 4, 3 of 4, 4 of 4.
            likely(Telling.made("lk022;"), 1, 4, 3, 4);
            likely(Telling.made("ls021;"), 2, 2, 1, 2);
            likely(Telling.made("ls021;"), 3, 2, 3, 4);
            likely(Telling.made("ls023;"), 7, 20, 1, 1);
            likely(Telling.made("lk000;"), 7, 20, 0, 1);
            likely(Telling.made("ls021;"), 7, 10, 999999, 1000000);
        });
        test("promise 30: the order in which it refuses", () -> {
            TilesGoAbout x = Telling.made("ls022;");
            due("nobody", x.coals(1, -1, 21, 2), LONG + 1);
            due("n below, t above", x.coals(0, -1, 21, 2), LONG + 4);
            due("n above, t below", x.coals(0, 8, 1, 2), LONG + 4);
            due("n above", x.coals(0, 8, 20, 2), LONG + 6);
            due("t above", x.coals(0, 7, 21, 2), LONG + 6);
            due("part 2", x.coals(0, 7, 20, 2), LONG + 2);
            due("part -1", x.coals(0, 7, 20, -1), LONG + 2);
        });
    }

    private static void coalsOverCracks() {
        test("promise 30: a TILE that was CRACKED stays so", () -> {
            TilesGoAbout x = Telling.made("ls022;c23;");
            likely(x, 7, 2, 0, 1);
            due("CRACKED", x.count(2), 1 << 23);
        });
        test("promise 30: one that was not is not behind the NIGHT", () -> {
            TilesGoAbout x = Telling.made("ls022;");
            likely(x, 1, 2, 1, 2);
            likely(x, 2, 2, 3, 4);
            due("CRACKED", x.count(2), 0);
        });
        test("promise 30: the TILE alone on which THE SHIP is", () -> {
            likely(Telling.made("ls001;s00;"), 1, 5, 4, 5);
            likely(Telling.made("ls001;s00;c23;"), 1, 5, 4, 5);
            likely(Telling.made("ls001;s00;c00;"), 1, 5, 0, 1);
        });
        test("promise 30: nobody, and the last of seven", () -> {
            due("of nobody", new TilesGoAbout().coals(0, 0, 2, 0), LONG + 1);
            TilesGoAbout x = Telling.made(SEVEN + "a623;");
            due("coals(6, 7, 20, 0)", x.coals(6, 7, 20, 0), 1);
            due("coals(7, 7, 20, 0)", x.coals(7, 7, 20, 0), LONG + 1);
            due("coals(-1, 7, 20, 0)", x.coals(-1, 7, 20, 0), LONG + 1);
        });
        test("promise 30: in thought NIGHT may pass 999", () -> {
            TilesGoAbout x = Telling.atNight(999);
            x.comesIn(2, 8, 22);
            likely(x, 1, 2, 1, 2);
            likely(x, 7, 2, 1, 2);
        });
    }

    // ---- promise 31

    private static void means(String statements, long above, long below) {
        TilesGoAbout x = Telling.made(statements);
        due("mean(0) of " + statements, x.mean(0), above);
        due("mean(1) of " + statements, x.mean(1), below);
    }

    private static void mean() {
        test("promise 31: 0 by 1 of nobody, and of all HOME", () -> {
            means("", 0, 1);
            means(SEVEN, 0, 1);
            means("lk005;", 0, 1);
        });
        test("promise 31: in least terms, to 8 by 1", () -> {
            means("lk000;a001;", 1, 1);
            means("lk000;lk000;a001;", 1, 2);
            means("lk000;lk000;lk000;lk000;a002;", 1, 2);
            means("lk000;lk000;lk000;lk000;lk000;lk000;a003;a103;a203;", 3, 2);
            means(SEVEN + "a001;", 1, 7);
            means(SEVEN + "a023;a123;a223;a323;a423;a523;a622;", 55, 7);
            means(SEVEN + "a023;a123;a223;a323;a423;a523;a623;", 8, 1);
        });
        test("promise 31: part 0 and 1, not -1 and 2, of nobody too", () -> {
            due("mean(-1)", new TilesGoAbout().mean(-1), LONG + 2);
            due("mean(2)", new TilesGoAbout().mean(2), LONG + 2);
            TilesGoAbout x = Telling.made("lk000;a023;");
            due("mean(-1)", x.mean(-1), LONG + 2);
            due("mean(2)", x.mean(2), LONG + 2);
            due("REFUSALS", x.count(12), 2);
        });
    }

    // ---- promises 32 to 35

    private static TilesGoAbout rowed(String statements, int... row) {
        TilesGoAbout x = Telling.made(statements);
        Telling.row(x, row);
        return x;
    }

    private static void whatIs() {
        test("promise 32: without a ROW all KINDS, all FIGURES", () -> {
            due("whatIs(0, 0)", Telling.made("lk000;").whatIs(0, 0), 63);
            due("whatIs(0, 1)", Telling.made("lk000;").whatIs(0, 1), 1023);
        });
        test("promise 32: behind 0 NIGHTS, where he is now", () -> {
            due("it is so", rowed("lk005;", 5).whatIs(0, 0), 63);
            due("it is so", rowed("lk005;", 5).whatIs(0, 1), 1023);
            due("it is not", rowed("lk005;", 4).whatIs(0, 0), 0);
            due("it is not", rowed("lk005;", 4).whatIs(0, 1), 0);
        });
        test("promise 32: numbers that are no TILE", () -> {
            for (int v : new int[] {24, 50, 99}) {
                due("whatIs(0, 0) by " + v, rowed("lk023;", v).whatIs(0, 0), 0);
                due("whatIs(0, 1) by " + v, rowed("lk023;", 23, v).whatIs(0, 1), 0);
            }
        });
        test("promise 32: a ROW of 16, all of it", () -> {
            // From NIGHT 7 a FISHER with FIGURE 9 goes behind 4 and behind 15.
            int[] row = {0, 0, 0, 0, 1, 1, 1, 1, 1, 1, 1, 1, 1, 1, 1, 2};
            due("FIGURES", rowed("n07;lf900;", row).whatIs(0, 1), 1 << 9);
            due("KINDS", rowed("n07;lf900;", row).whatIs(0, 0), 1 << 2);
            row[15] = 1;
            due("but the last", rowed("n07;lf900;", row).whatIs(0, 1), 0);
            due("but the last", rowed("n07;lf900;", row).whatIs(0, 0), 0);
        });
        test("promise 32: FIGURE 0 and FIGURE 9", () -> {
            due("FIGURE 0", rowed("lf900;", 0, 0, 1).whatIs(0, 1), 1);
            due("FIGURE 9", rowed("lf000;", 0, 0, 0, 0, 0, 0, 0, 0, 0, 0, 0, 1).whatIs(0, 1), 1 << 9);
            due("none of them by then", rowed("lf000;", 0, 0, 0, 0, 0, 0, 0, 0, 0, 0, 0, 0).whatIs(0, 1), 0);
        });
        test("promise 32: KIND 0 and KIND 5", () -> {
            due("SKATER alone", rowed("ln000;s06;", 0, 1).whatIs(0, 0), 1);
            due("NOBODY and FISHER", rowed("lk000;lk001;", 0, 0).whatIs(0, 0), 4 + 16 + 32);
        });
        test("promise 32: nobody, the last, what 0 and 1, and the ROW stays", () -> {
            TilesGoAbout x = rowed(SEVEN, 0);
            due("whatIs(-1, 0)", x.whatIs(-1, 0), -1);
            due("whatIs(7, 0)", x.whatIs(7, 0), -1);
            due("whatIs(6, -1)", x.whatIs(6, -1), -2);
            due("whatIs(6, 0)", x.whatIs(6, 0), 63);
            due("whatIs(6, 1)", x.whatIs(6, 1), 1023);
            due("whatIs(6, 2)", x.whatIs(6, 2), -2);
            due("count(6)", x.count(6), 1);
        });
    }

    private static void row() {
        test("promise 33: 0 and 99, not -1 and 100", () -> {
            TilesGoAbout x = new TilesGoAbout();
            due("row(-1)", x.row(-1), -4);
            due("row(0)", x.row(0), 1);
            due("row(99)", x.row(99), 2);
            due("row(100)", x.row(100), -6);
            due("count(6)", x.count(6), 2);
        });
        test("promise 33: 16 have room, a 17th has none", () -> {
            TilesGoAbout x = new TilesGoAbout();
            for (int i = 1; i <= 16; i++) {
                due("row(5)", x.row(5), i);
            }
            due("the 17th", x.row(5), -6);
            due("the 17th, 100", x.row(100), -6);
            due("the 17th, -1", x.row(-1), -4);
            due("count(6)", x.count(6), 16);
            due("clear()", x.clear(), 16);
            due("row(5)", x.row(5), 1);
        });
    }

    private static void judge() {
        test("promise 34: -9 without a ROW, nobody there or somebody", () -> {
            due("nobody there", new TilesGoAbout().judge(), -9);
            due("all seven there", Telling.made(SEVEN).judge(), -9);
        });
        test("promise 34: nobody there, too", () -> {
            due("the first of none", rowed("", 0).judge(), 0);
            String all = "";
            int[] zeros = {};
            for (int many = 0; many <= 7; many++) {
                due(many + " told, " + many + " there", rowed(all, zeros).judge(), -9);
                int[] more = new int[many + 1];
                due((many + 1) + " told, " + many + " there", rowed(all, more).judge(), many);
                all += "lk000;";
                zeros = more;
            }
        });
        test("promise 34: a ROW of 16 with all seven", () -> {
            TilesGoAbout x = rowed(SEVEN, 0, 0, 0, 0, 0, 0, 0, 0, 0, 0, 0, 0, 0, 0, 0, 0);
            due("judge()", x.judge(), 7);
            due("count(6)", x.count(6), 0);
        });
        test("promise 34: the first that is not so, HOME and not TILE", () -> {
            for (int wrong = 0; wrong < 7; wrong++) {
                int[] row = new int[7];
                row[wrong] = 1;
                row[6] = 99;
                due("wrong at " + wrong, rowed(SEVEN + "a" + wrong + "01;", row).judge(), wrong);
            }
        });
        test("promise 34: whichever it answers, the ROW has none then", () -> {
            for (int v : new int[] {0, 1, 99}) {
                TilesGoAbout x = rowed(SEVEN, v);
                x.judge();
                due("count(6)", x.count(6), 0);
                due("judge() once more", x.judge(), -9);
                due("clear()", x.clear(), 0);
                due("row(0)", x.row(0), 1);
            }
        });
    }

    private static void clear() {
        test("promise 35: 0, 1 and 16 had", () -> {
            TilesGoAbout x = new TilesGoAbout();
            due("clear() of none", x.clear(), 0);
            for (int many = 1; many <= 16; many++) {
                for (int i = 0; i < many; i++) {
                    x.row(i);
                }
                due("clear()", x.clear(), many);
                due("clear() once more", x.clear(), 0);
                due("count(6)", x.count(6), 0);
            }
            due("REFUSALS", x.count(16), 0);
        });
    }

    // ---- promise 36

    /** DRAWS as the document tells them, in numbers that don't wrap around by themselves. */
    private static final class Lot {
        private long z;

        Lot(int seed) {
            z = seed & 0xffffffffL;
        }

        int draw(int below) {
            z = (z * 1664525L + 1013904223L) & 0xffffffffL;
            return (int) ((z & 0x7fffffffL) / 256 % below);
        }
    }

    /** How many of all DRAWS of TILES, for so many ones and winters, are one of these. */
    private static int drawn(int seed, int ones, int winters, int... tiles) {
        Lot lot = new Lot(seed);
        int found = 0;
        for (int i = 0; i < ones * winters; i++) {
            int tile = lot.draw(24);
            lot.draw(3);
            for (int wanted : tiles) {
                found += tile == wanted ? 1 : 0;
            }
        }
        return found;
    }

    /** How often of 20 winters of two SKATERs one is there in the end; column 0 is CRACKED. */
    private static int skatersThere(int seed, int there) {
        Lot lot = new Lot(seed);
        int found = 0;
        for (int i = 0; i < 40; i++) {
            int tile = lot.draw(24);
            int steps = 10 - lot.draw(3);
            int column = tile % 6;
            for (int step = 0; step < steps && column > 0; step++) {
                column = column < 5 ? column + 1 : 4;
            }
            found += tile - tile % 6 + column == there ? 1 : 0;
        }
        return found;
    }

    private static final int[] SEEDS = {0, 1, -1, 7, Telling.HUGE, Telling.TINY, Telling.HUGE - 1, Telling.TINY + 1, 1013904223, -1013904223};

    private static void lots() {
        test("promise 36: of nobody", () -> {
            for (int what = 0; what <= 1; what++) {
                due("1 winter", new TilesGoAbout().lots(1, 5, what), 0);
                due("20 winters", new TilesGoAbout().lots(20, 5, what), 0);
            }
        });
        test("promise 36: 1 and 20 winters, not 0 and 21", () -> {
            // Within 10 NIGHTS every SAILOR is ABOARD: 8 TILES at most, PINNED for 2 at most.
            TilesGoAbout x = Telling.made("ls000;");
            due("lots(0, 5, 0)", x.lots(0, 5, 0), -4);
            due("lots(-1, 5, 0)", x.lots(-1, 5, 0), -4);
            for (int n = 1; n <= 20; n++) {
                due("lots(" + n + ", 5, 0)", x.lots(n, 5, 0), n);
            }
            due("lots(21, 5, 0)", x.lots(21, 5, 0), -6);
        });
        test("promise 36: what 0 and 1, not -1 and 2", () -> {
            TilesGoAbout x = Telling.made("ls000;");
            due("lots(3, 5, -1)", x.lots(3, 5, -1), -2);
            due("lots(3, 5, 0)", x.lots(3, 5, 0), 3);
            due("lots(3, 5, 1)", x.lots(3, 5, 1), 0);
            due("lots(3, 5, 2)", x.lots(3, 5, 2), -2);
        });
        test("promise 36: all seven, of whom THE SHIP takes three and those drawn there", () -> {
            TilesGoAbout x = Telling.made("ls000;ls000;ls000;ls000;ls000;ls000;ls000;");
            for (int seed : SEEDS) {
                int there = drawn(seed, 7, 1, 23);
                due("ABOARD with seed " + seed, x.lots(1, seed, 0), Math.max(3, there));
            }
        });
    }

    private static void draws() {
        test("promise 36: a DRAW's z wraps around as an int, any seed", () -> {
            StringBuilder cracks = new StringBuilder();
            for (int tile = 0; tile < 24; tile++) {
                cracks.append("c").append(tile).append(";");
            }
            // All CRACKED, everybody stays where he is drawn.
            TilesGoAbout x = Telling.made("lk005;lh005;lf005;ls005;lw005;ln005;lk005;" + cracks);
            for (int seed : SEEDS) {
                for (int n : new int[] {1, 2, 20}) {
                    due("HOME, " + n + " winters, seed " + seed, x.lots(n, seed, 1), drawn(seed, 7, n, 5));
                    due("ABOARD, " + n + " winters, seed " + seed, x.lots(n, seed, 0), drawn(seed, 7, n, 23));
                }
            }
        });
        test("promise 36: PINNED by a DRAW below 3, each behind his TILE's", () -> {
            for (int seed : SEEDS) {
                for (int home : new int[] {4, 5, 10, 11, 16, 17, 22, 23}) {
                    TilesGoAbout x = Telling.made("lk0" + home + ";lk0" + home + ";s00;c00;c06;c12;c18;");
                    due("HOME " + home + ", seed " + seed, x.lots(20, seed, 1), skatersThere(seed, home));
                }
            }
        });
        test("promise 36: TILES 0 and 23 are drawn, PINNED 0 and 2", () -> {
            int[] seeds = new int[4];
            int found = 0;
            for (int seed = 0; seed < 100000; seed++) {
                Lot lot = new Lot(seed);
                int tile = lot.draw(24);
                int pinned = lot.draw(3);
                if (tile % 23 == 0 && pinned != 1) {
                    int which = (tile == 0 ? 0 : 2) + pinned / 2;
                    found |= 1 << which;
                    seeds[which] = seed;
                }
            }
            due("seeds for all four", found, 15);
            // 8 TILES away and PINNED for 2 a SAILOR is ABOARD in the tenth NIGHT, and NOBODY too.
            due("TILE 0, PINNED 0", Telling.made("ls000;").lots(1, seeds[0], 0), 1);
            due("TILE 0, PINNED 2", Telling.made("ls000;").lots(1, seeds[1], 0), 1);
            due("TILE 23, PINNED 0", Telling.made("ls000;s00;").lots(1, seeds[2], 0), 1);
            due("TILE 23, PINNED 2", Telling.made("ls000;s00;").lots(1, seeds[3], 0), 1);
            // A HOOP comes from 0 by 18 to 23 in 8 NIGHTS, and from there to 22 and back in 2 more.
            due("10 NIGHTS", Telling.made("lh023;s05;").lots(1, seeds[0], 1), 1);
            due("8 NIGHTS", Telling.made("lh023;s05;").lots(1, seeds[1], 1), 1);
        });
        test("promise 36: just 10 NIGHTS", () -> {
            for (int seed : SEEDS) {
                due("NIGHT 10 is within", Telling.made("lf800;s02;").lots(20, seed, 0), drawn(seed, 1, 20, 1, 2));
                due("NIGHT 11 is not", Telling.made("lf900;s02;").lots(20, seed, 0), drawn(seed, 1, 20, 2));
            }
        });
        test("promise 36: each winter from now, and now it is as it was", () -> {
            TilesGoAbout x = Telling.atNight(999);
            x.comesIn(2, 8, 0);
            x.pins(0, 9);
            x.ship(2);
            // NIGHT 1000 is the first of each winter, 1009 the last: PINNED for none he goes in it.
            int pinnedFree = 0;
            Lot lot = new Lot(3);
            for (int winter = 0; winter < 20; winter++) {
                int tile = lot.draw(24);
                int pinned = lot.draw(3);
                pinnedFree += tile == 2 || tile == 1 && pinned == 0 ? 1 : 0;
            }
            due("lots(20, 3, 0)", x.lots(20, 3, 0), pinnedFree);
            due("NIGHT", x.count(1), 999);
            due("PINNED", x.little(0, 4), 9);
            due("TILE", x.little(0, 3), 0);
        });
    }
}
