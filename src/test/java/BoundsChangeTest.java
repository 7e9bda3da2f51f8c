import java.util.Arrays;

/** Promises 4 to 12: a test for each sentence that names a boundary case; what is refused stands in RefusalsTest. */
public final class BoundsChangeTest {
    private static final Checks CHECKS = new Checks();
    private static final String SEVEN = "lk000;lh100;lf200;ls300;lw400;ln500;lk600;";

    public static void main(String[] args) {
        little();
        waysOfSkaterAndHoop();
        waysOfFisher();
        waysToTheShip();
        waysOfNobody();
        tile();
        comesIn();
        stands();
        cracks();
        ship();
        pins();
        turn();
        nightsInTime();
        nightsOfOne();
        nightsOfSeveral();
        nightsOverCracks();
        CHECKS.end();
    }

    private static void test(String name, Runnable body) {
        CHECKS.test(name, body);
    }

    private static void due(String call, long got, long want) {
        CHECKS.due(call, got, want);
    }

    private static void at(String call, TilesGoAbout x, int... tiles) {
        CHECKS.holds(call + ": on " + Arrays.toString(Telling.tiles(x)) + ", due is " + Arrays.toString(tiles),
            Arrays.equals(Telling.tiles(x), tiles));
    }

    // ---- promise 4

    private static void little() {
        test("promise 4: of nobody, of the last and of one more", () -> {
            String all = "";
            for (int many = 0; many <= 7; many++) {
                TilesGoAbout x = Telling.made(all);
                for (int what = 0; what <= 5; what++) {
                    due("one below", x.little(-1, what), -1);
                    if (many > 0) {
                        CHECKS.holds("the last is there", x.little(many - 1, what) >= 0);
                    }
                    due("one more", x.little(many, what), -1);
                }
                all += "lk000;";
            }
        });
        test("promise 4: the least and the greatest of each", () -> {
            TilesGoAbout x = Telling.made("lk000;ln923;a123;s00;");
            Telling.tell(x, "p19;");
            int[] least = {0, 0, 0, 0, 0, 1};
            int[] greatest = {5, 9, 23, 23, 9, 0};
            for (int what = 0; what <= 5; what++) {
                due("little(0, " + what + ")", x.little(0, what), least[what]);
                due("little(1, " + what + ")", x.little(1, what), greatest[what]);
            }
        });
        test("promise 4: 1 ABOARD, 0", () -> {
            for (int ship = 0; ship < 24; ship++) {
                for (int tile = 0; tile < 24; tile++) {
                    TilesGoAbout x = Telling.made("lk0" + tile + ";s" + ship + ";");
                    due("SHIP " + ship + ", TILE " + tile, x.little(0, 5), ship == tile ? 1 : 0);
                }
            }
        });
        test("promise 4: the number of a WAY is refused for nobody", () -> {
            due("little(0, 6)", new TilesGoAbout().little(0, 6), -1);
            due("little(7, 6)", Telling.made(SEVEN).little(7, 6), -1);
            due("little(6, 6)", Telling.made(SEVEN).little(6, 6), 1);
        });
    }

    private static void way(String statements, int want) {
        due("the WAY of 0 in " + statements, Telling.made(statements).little(0, 6), want);
    }

    private static void waysOfSkaterAndHoop() {
        test("promise 4, SKATER: right, if there is a TILE, else left", () -> {
            for (int tile = 0; tile < 24; tile++) {
                boolean last = tile == 5 || tile == 11 || tile == 17 || tile == 23;
                way("lk0" + tile + ";", last ? 3 : 1);
            }
        });
        test("promise 4, HOOP: down, if there is a TILE, else as a SKATER", () -> {
            for (int tile = 0; tile < 24; tile++) {
                way("lh0" + tile + ";", tile <= 17 ? 2 : tile == 23 ? 3 : 1);
            }
        });
    }

    private static void waysOfFisher() {
        test("promise 4, FISHER: 2 more than FIGURE divides NIGHT, 1 more by then", () -> {
            for (int figure = 0; figure <= 9; figure++) {
                for (int night = 0; night <= 24; night++) {
                    TilesGoAbout x = Telling.atNight(night);
                    x.comesIn(2, figure, 0);
                    x.comesIn(2, figure, 5);
                    boolean goes = (night + 1) % (figure + 2) == 0;
                    due("FIGURE " + figure + ", NIGHT " + night, x.little(0, 6), goes ? 1 : -9);
                    due("FIGURE " + figure + ", NIGHT " + night, x.little(1, 6), goes ? 3 : -9);
                }
            }
        });
        test("promise 4: in thought NIGHT may pass 999", () -> {
            TilesGoAbout x = Telling.atNight(999);
            x.comesIn(2, 8, 0);
            x.comesIn(2, 7, 0);
            x.comesIn(4, 0, 22);
            due("10 divides 1000", x.little(0, 6), 1);
            due("9 divides 999, not 1000", x.little(1, 6), -9);
            due("1000 is even", x.little(2, 6), 1);
        });
    }

    /** The WAY to THE SHIP, told by rows and columns counted by hand. */
    private static int toShip(int tile, int ship) {
        int row = tile / 6;
        int shipRow = ship / 6;
        if (row > shipRow) {
            return 0;
        }
        if (row < shipRow) {
            return 2;
        }
        return tile == ship ? -9 : tile < ship ? 1 : 3;
    }

    private static void waysToTheShip() {
        test("promise 4, SAILOR: up or down in another row, else right or left, none on its TILE", () -> {
            for (int ship = 0; ship < 24; ship++) {
                for (int tile = 0; tile < 24; tile++) {
                    way("ls0" + tile + ";s" + ship + ";", toShip(tile, ship));
                }
            }
        });
        test("promise 4, WIFE: TO THE SHIP in even NIGHTS", () -> {
            for (int ship = 0; ship < 24; ship++) {
                for (int tile = 0; tile < 24; tile++) {
                    way("n01;lw0" + tile + ";s" + ship + ";", toShip(tile, ship));
                }
            }
        });
        test("promise 4, WIFE: against it in odd NIGHTS, 2 more modulo 4, if there is a TILE, else none", () -> {
            for (int ship = 0; ship < 24; ship++) {
                for (int tile = 0; tile < 24; tile++) {
                    int to = toShip(tile, ship);
                    boolean edge = to == 0 && tile >= 18 || to == 1 && tile % 6 == 0
                        || to == 2 && tile <= 5 || to == 3 && tile % 6 == 5;
                    int[] against = {2, 3, 0, 1};
                    way("lw0" + tile + ";s" + ship + ";", to == -9 || edge ? -9 : against[to]);
                }
            }
        });
    }

    private static void waysOfNobody() {
        test("promise 4, NOBODY: all others ABOARD, none there too", () -> {
            way("ln000;", 2);
            way("ln023;", -9);
            String all = "ln021;";
            for (int others = 1; others <= 6; others++) {
                all += "ls023;";
                way(all, 1);
                for (int away = 1; away <= others; away++) {
                    way(all + "a" + away + "22;", -9);
                }
            }
        });
        test("promise 4, NOBODY: whichever other is away", () -> {
            for (int nobody = 0; nobody < 7; nobody++) {
                for (int away = 0; away < 7; away++) {
                    TilesGoAbout x = Telling.made("lk023;lk023;lk023;lk023;lk023;lk023;lk023;");
                    x.turn(nobody, 5, 0);
                    x.stands(nobody, 21);
                    x.stands(away, 21);
                    due("NOBODY " + nobody + ", away " + away, x.little(nobody, 6), away == nobody ? 1 : -9);
                }
            }
        });
        test("promise 4, NOBODY: he himself need not be ABOARD, wherever his number", () -> {
            TilesGoAbout x = Telling.made("ls023;ln021;ls023;");
            due("little(1, 6)", x.little(1, 6), 1);
            due("of two NOBODIES", Telling.made("ln021;ln021;").little(0, 6), -9);
        });
    }

    // ---- promises 5 to 11

    private static void tile() {
        test("promise 5: TILE 0 and TILE 23, CRACKED and not", () -> {
            TilesGoAbout x = new TilesGoAbout();
            for (int tile = 0; tile < 24; tile++) {
                due("tile(" + tile + ", 0)", x.tile(tile, 0), 0);
                x.cracks(tile);
                due("tile(" + tile + ", 0)", x.tile(tile, 0), 1);
            }
            for (int tile = 0; tile < 24; tile++) {
                due("all CRACKED: tile(" + tile + ", 0)", x.tile(tile, 0), 1);
            }
            due("tile(-1, 0)", x.tile(-1, 0), -1);
            due("tile(24, 0)", x.tile(24, 0), -1);
        });
        test("promise 5: nobody there, one, all seven", () -> {
            for (int tile = 0; tile < 24; tile++) {
                due("nobody", new TilesGoAbout().tile(tile, 1), 0);
                TilesGoAbout x = Telling.made(SEVEN);
                due("all on TILE 0", x.tile(tile, 1), tile == 0 ? 127 : 0);
                x.stands(6, 23);
                due("6 on TILE 23", x.tile(tile, 1), tile == 0 ? 63 : tile == 23 ? 64 : 0);
                x.stands(0, 23);
                due("0 and 6 on TILE 23", x.tile(tile, 1), tile == 0 ? 62 : tile == 23 ? 65 : 0);
            }
        });
    }

    private static void comesIn() {
        test("promise 6: KINDS 0 and 5, FIGURES 0 and 9, HOMES 0 and 23", () -> {
            TilesGoAbout x = new TilesGoAbout();
            due("comesIn(0, 0, 0)", x.comesIn(0, 0, 0), 0);
            due("comesIn(5, 9, 23)", x.comesIn(5, 9, 23), 1);
            due("comesIn(-1, 0, 0)", x.comesIn(-1, 0, 0), -2);
            due("comesIn(6, 0, 0)", x.comesIn(6, 0, 0), -2);
            due("comesIn(0, -1, 0)", x.comesIn(0, -1, 0), -4);
            due("comesIn(0, 10, 0)", x.comesIn(0, 10, 0), -6);
            due("comesIn(0, 0, -1)", x.comesIn(0, 0, -1), -1);
            due("comesIn(0, 0, 24)", x.comesIn(0, 0, 24), -1);
            due("count(0)", x.count(0), 2);
        });
        test("promise 6: AT HOME at first, PINNED 0 at first, also where another was", () -> {
            TilesGoAbout x = new TilesGoAbout();
            x.image();
            Telling.tell(x, "ls923;a005;p09;");
            x.on();
            due("comesIn(1, 2, 7)", x.comesIn(1, 2, 7), 0);
            int[] want = {1, 2, 7, 7, 0, 0};
            for (int what = 0; what <= 5; what++) {
                due("little(0, " + what + ")", x.little(0, what), want[what]);
            }
        });
        test("promise 6: 7 have room, an 8th has none, on one TILE all of them", () -> {
            TilesGoAbout x = new TilesGoAbout();
            for (int i = 0; i < 7; i++) {
                due("comesIn(0, 0, 9)", x.comesIn(0, 0, 9), i);
            }
            due("the 8th", x.comesIn(0, 0, 9), -6);
            due("tile(9, 1)", x.tile(9, 1), 127);
            due("count(0)", x.count(0), 7);
        });
        test("promise 6: the order in which it refuses, with no room at last", () -> {
            TilesGoAbout x = Telling.made(SEVEN);
            due("comesIn(6, -1, 24)", x.comesIn(6, -1, 24), -2);
            due("comesIn(6, 10, 24)", x.comesIn(6, 10, 24), -2);
            due("comesIn(5, -1, 24)", x.comesIn(5, -1, 24), -4);
            due("comesIn(5, 10, 24)", x.comesIn(5, 10, 24), -6);
            due("comesIn(5, 9, 24)", x.comesIn(5, 9, 24), -1);
            due("comesIn(5, 9, 23)", x.comesIn(5, 9, 23), -6);
        });
        test("promise 6: at HOME on a CRACKED TILE, and ABOARD", () -> {
            TilesGoAbout x = Telling.made("c05;s05;");
            due("comesIn(0, 0, 5)", x.comesIn(0, 0, 5), 0);
            due("ABOARD", x.little(0, 5), 1);
        });
    }

    private static void stands() {
        test("promise 7: to TILE 0 and to TILE 23, and where he was", () -> {
            TilesGoAbout x = Telling.made("lk005;p04;");
            due("stands(0, 0)", x.stands(0, 0), 5);
            due("stands(0, 23)", x.stands(0, 23), 0);
            due("stands(0, 23)", x.stands(0, 23), 23);
            due("stands(0, 24)", x.stands(0, 24), -1);
            due("stands(0, -1)", x.stands(0, -1), -1);
            due("TILE", x.little(0, 3), 23);
            due("HOME", x.little(0, 2), 5);
            due("PINNED", x.little(0, 4), 4);
        });
        test("promise 7: the first, the last, one more", () -> {
            TilesGoAbout x = Telling.made(SEVEN);
            due("stands(-1, 1)", x.stands(-1, 1), -1);
            due("stands(7, 1)", x.stands(7, 1), -1);
            due("stands(0, 1)", x.stands(0, 1), 0);
            due("stands(6, 2)", x.stands(6, 2), 0);
            at("stands", x, 1, 0, 0, 0, 0, 0, 2);
        });
        test("promise 7: on a CRACKED TILE and on one where three are", () -> {
            TilesGoAbout x = Telling.made("lk007;lk007;lk007;lk000;c07;");
            due("stands(3, 7)", x.stands(3, 7), 0);
            due("tile(7, 1)", x.tile(7, 1), 15);
        });
    }

    private static void cracks() {
        test("promise 8: each TILE by itself, 0 to 23, and not any more", () -> {
            TilesGoAbout x = new TilesGoAbout();
            for (int tile = 0; tile < 24; tile++) {
                due("cracks(" + tile + ")", x.cracks(tile), 1);
                due("count(2)", x.count(2), (1 << tile + 1) - 1);
            }
            for (int tile = 0; tile < 24; tile++) {
                due("cracks(" + tile + ")", x.cracks(tile), 0);
                due("count(2)", x.count(2), Telling.EVERY_TILE - ((1 << tile + 1) - 1));
            }
            due("cracks(24)", x.cracks(24), -1);
            due("cracks(-1)", x.cracks(-1), -1);
            due("cracks(32)", x.cracks(32), -1);
            due("count(2)", x.count(2), 0);
        });
        test("promise 8: THE SHIP's TILE, and one where somebody is", () -> {
            TilesGoAbout x = Telling.made("lk007;");
            due("cracks(23)", x.cracks(23), 1);
            due("cracks(7)", x.cracks(7), 1);
            due("cracks(7)", x.cracks(7), 0);
        });
    }

    private static void ship() {
        test("promise 9: on TILE 0 and on TILE 23, and where it was", () -> {
            TilesGoAbout x = new TilesGoAbout();
            due("ship(23)", x.ship(23), 23);
            due("ship(0)", x.ship(0), 23);
            due("ship(0)", x.ship(0), 0);
            due("ship(-1)", x.ship(-1), -1);
            due("ship(24)", x.ship(24), -1);
            due("count(3)", x.count(3), 0);
        });
        test("promise 9: where all are, and where nobody is", () -> {
            TilesGoAbout x = Telling.made(SEVEN);
            due("ABOARD", x.count(4), 0);
            x.ship(0);
            due("ABOARD", x.count(4), 127);
            x.ship(1);
            due("ABOARD", x.count(4), 0);
        });
    }

    private static void pins() {
        test("promise 10: 0 and 9 NIGHTS, not -1 and 10", () -> {
            TilesGoAbout x = Telling.made("lk005;a007;");
            due("pins(0, -1)", x.pins(0, -1), -4);
            due("pins(0, 10)", x.pins(0, 10), -6);
            due("TILE", x.little(0, 3), 7);
            due("pins(0, 9)", x.pins(0, 9), 7);
            due("PINNED", x.little(0, 4), 9);
            due("HOME", x.little(0, 3), 5);
            due("pins(0, 0)", x.pins(0, 0), 5);
            due("PINNED", x.little(0, 4), 0);
        });
        test("promise 10: PINNED for 0 NIGHTS he is HOME, too", () -> {
            TilesGoAbout x = Telling.made("lk005;a007;");
            due("pins(0, 0)", x.pins(0, 0), 7);
            due("TILE", x.little(0, 3), 5);
        });
        test("promise 10: so long, not longer for having been PINNED before", () -> {
            TilesGoAbout x = Telling.made("lk005;p09;");
            x.pins(0, 3);
            due("PINNED", x.little(0, 4), 3);
            x.pins(0, 4);
            due("PINNED", x.little(0, 4), 4);
        });
        test("promise 10: nobody with that number, the last, and off THE SHIP", () -> {
            TilesGoAbout x = Telling.made(SEVEN + "a623;");
            due("pins(7, 1)", x.pins(7, 1), -1);
            due("pins(-1, 1)", x.pins(-1, 1), -1);
            due("pins(6, 1)", x.pins(6, 1), 23);
            due("ABOARD", x.count(4), 0);
            due("PINNED", x.count(5), 1);
        });
    }

    private static void turn() {
        test("promise 11: from every KIND and FIGURE to the next, 0 .. 59", () -> {
            TilesGoAbout x = Telling.made("lk000;lh500;");
            for (int is = 0; is < 60; is++) {
                int next = (is + 1) % 60;
                due("turn to " + next, x.turn(0, next / 10, next % 10), is);
            }
            due("the other", x.turn(1, 0, 0), 15);
        });
        test("promise 11: KINDS and FIGURES beyond, in their order", () -> {
            TilesGoAbout x = Telling.made("ln900;");
            due("turn(1, -1, -1)", x.turn(1, -1, -1), -1);
            due("turn(0, -1, -1)", x.turn(0, -1, -1), -2);
            due("turn(0, 6, 10)", x.turn(0, 6, 10), -2);
            due("turn(0, 5, -1)", x.turn(0, 5, -1), -4);
            due("turn(0, 5, 10)", x.turn(0, 5, 10), -6);
            due("turn(0, 0, 0)", x.turn(0, 0, 0), 59);
        });
        test("promise 11: TILE, HOME and PINNED stay", () -> {
            TilesGoAbout x = Telling.made("ln905;p07;a009;");
            x.turn(0, 0, 0);
            due("HOME", x.little(0, 2), 5);
            due("TILE", x.little(0, 3), 9);
            due("PINNED", x.little(0, 4), 7);
        });
    }

    // ---- promise 12

    private static void nightsInTime() {
        test("promise 12: 1 and 60 NIGHTS, not 0 and 61", () -> {
            TilesGoAbout x = new TilesGoAbout();
            due("nights(0)", x.nights(0), -4);
            due("nights(61)", x.nights(61), -6);
            due("NIGHT", x.count(1), 0);
            due("nights(1)", x.nights(1), 0);
            due("NIGHT", x.count(1), 1);
            due("nights(60)", x.nights(60), 0);
            due("NIGHT", x.count(1), 61);
        });
        test("promise 12: to NIGHT 999, not above", () -> {
            for (int night = 938; night <= 999; night++) {
                for (int n : new int[] {1, 2, 59, 60}) {
                    TilesGoAbout x = Telling.atNight(night);
                    boolean goes = night + n <= 999;
                    due("nights(" + n + ") at NIGHT " + night, x.nights(n), goes ? 0 : -6);
                    due("NIGHT", x.count(1), goes ? night + n : night);
                }
            }
        });
        test("promise 12: NIGHTS whose sum with NIGHT would wrap around", () -> {
            TilesGoAbout x = Telling.atNight(999);
            due("nights(HUGE)", x.nights(Telling.HUGE), -6);
            due("nights(HUGE - 998)", x.nights(Telling.HUGE - 998), -6);
            due("nights(TINY)", x.nights(Telling.TINY), -4);
        });
        test("promise 12: how many are ABOARD, none and all", () -> {
            due("of nobody", new TilesGoAbout().nights(1), 0);
            TilesGoAbout x = Telling.made(SEVEN + "c00;");
            due("none", x.nights(1), 0);
            x.ship(0);
            due("all", x.nights(1), 7);
        });
    }

    private static void nightsOfOne() {
        test("promise 12: who is ABOARD does not go, nor is he PINNED less", () -> {
            TilesGoAbout x = Telling.made("lk000;lh000;lf000;ls000;lw000;ln000;s00;p09;p11;");
            due("nights(60)", x.nights(60), 6);
            due("PINNED 9", x.little(0, 4), 9);
            due("PINNED 1", x.little(1, 4), 1);
        });
        test("promise 12: PINNED above 0: 1 less, and he stays; at 0 he goes", () -> {
            for (int pinned = 0; pinned <= 9; pinned++) {
                TilesGoAbout x = Telling.made("ls021;p0" + pinned + ";");
                for (int night = 1; night <= 11; night++) {
                    x.nights(1);
                    due("PINNED", x.little(0, 4), Math.max(0, pinned - night));
                    due("TILE behind " + night + ", PINNED " + pinned, x.little(0, 3), 21 + Math.max(0, Math.min(2, night - pinned)));
                }
            }
        });
        test("promise 12: from row to row, and from column to column, nobody goes around", () -> {
            at("SKATER at the right end", later("lk005;", 1), 4);
            at("SKATER at the right end of the last row", later("lk023;s00;", 1), 22);
            at("SKATER before the right end", later("lk004;", 1), 5);
            at("HOOP in the last row", later("lh018;", 1), 19);
            at("HOOP in the last corner", later("lh023;s00;", 1), 22);
            at("HOOP above the last row", later("lh017;", 1), 23);
            at("WIFE against it at the left end", later("lw018;", 1), 18);
            at("WIFE against it at the right end", later("lw023;s18;", 1), 23);
            at("WIFE against it in the first row", later("lw000;", 1), 0);
            at("WIFE against it in the last row", later("lw018;s00;", 1), 18);
        });
        test("promise 12: FISHERS go in the NIGHT that it has become", () -> {
            for (int figure = 0; figure <= 9; figure++) {
                int every = figure + 2;
                at("a NIGHT before", later("lf" + figure + "00;", every - 1), 0);
                at("in it", later("lf" + figure + "00;", every), 1);
                at("behind it", later("lf" + figure + "00;", every + 1), 1);
                at("in the last NIGHT but one", later("lf" + figure + "00;", 2 * every - 1), 1);
                at("in the second", later("lf" + figure + "00;", 2 * every), 2);
            }
        });
    }

    private static TilesGoAbout later(String statements, int n) {
        TilesGoAbout x = Telling.made(statements);
        x.nights(n);
        return x;
    }

    private static void nightsOfSeveral() {
        test("promise 12: on which fewer than 3 are", () -> {
            String there = "";
            for (int many = 0; many <= 6; many++) {
                due(many + " there", later("lk000;" + there, 1).little(0, 3), many < 3 ? 1 : 0);
                there += "lf901;";
            }
        });
        test("promise 12: THE SHIP, too, takes three that go", () -> {
            String there = "";
            for (int many = 0; many <= 6; many++) {
                TilesGoAbout x = Telling.made("ls022;" + there);
                due(many + " ABOARD", x.nights(1), many < 3 ? many + 1 : many);
                there += "lk023;";
            }
            at("of six the first three", later("ls022;ls022;ls022;ls017;ls017;ls017;", 60), 23, 23, 23, 17, 17, 17);
        });
        test("promise 12: by numbers, by where all are then", () -> {
            at("a lesser number leaves room for a greater", later("lk001;lf901;lf901;lk000;", 1), 2, 1, 1, 1);
            at("a greater number leaves none for a lesser", later("lk000;lk001;lf901;lf901;", 1), 0, 2, 1, 1);
            at("a lesser number takes the last room", later("lk000;ls007;lf901;lf901;s01;", 1), 1, 7, 1, 1);
            at("of a greater the other way round", later("ls007;lk000;lf901;lf901;s01;", 1), 1, 0, 1, 1);
            at("NOBODY goes in the NIGHT in which a lesser comes ABOARD", later("ls022;ln021;", 1), 23, 22);
            at("NOBODY waits for a greater", later("ln021;ls022;", 1), 21, 23);
        });
        test("promise 12: two pass one another", () -> at("0 and 1", later("lk001;ls002;s00;", 1), 2, 1));
    }

    private static void nightsOverCracks() {
        test("promise 12: not onto a CRACKED TILE, nor from one", () -> {
            at("beside", later("lk000;c06;c02;", 1), 1);
            at("onto it", later("lk000;c01;", 60), 0);
            at("from it", later("lk000;c00;", 60), 0);
            at("from one to another", later("lk000;c00;c01;", 60), 0);
            at("mended", later("lk000;c01;c01;", 1), 1);
            at("onto THE SHIP's", later("ls022;c23;", 60), 22);
            at("TILE 23", later("lk022;c23;s00;", 1), 22);
            at("TILE 0", later("ls001;c00;s00;", 1), 1);
        });
        test("promise 12: on a CRACKED TILE PINNED is less, too", () -> {
            TilesGoAbout x = later("lk000;c00;p05;", 2);
            due("PINNED", x.little(0, 4), 3);
        });
        test("promise 12: all CRACKED, nobody goes", () -> {
            TilesGoAbout x = Telling.made("lk000;lh108;lf015;ls322;lw404;ln523;lk611;");
            for (int tile = 0; tile < 24; tile++) {
                x.cracks(tile);
            }
            due("nights(60)", x.nights(60), 1);
            at("behind 60", x, 0, 8, 15, 22, 4, 23, 11);
        });
    }
}
