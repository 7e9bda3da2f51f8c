import java.util.List;

/** Promises 37 to 39, and the 512 calls of an object: a test for each sentence that names a boundary case. */
public final class BoundsImageTest {
    private static final Checks CHECKS = new Checks();
    private static final String SEVEN = "lk000;lh100;lf200;ls300;lw400;ln500;lk600;";

    public static void main(String[] args) {
        image();
        on();
        whatIsInIt();
        whatIsNotInIt();
        count();
        countOfRefusals();
        calls();
        CHECKS.end();
    }

    private static void test(String name, Runnable body) {
        CHECKS.test(name, body);
    }

    private static void due(String call, long got, long want) {
        CHECKS.due(call, got, want);
    }

    private static TilesGoAbout crackedAll(String statements) {
        TilesGoAbout x = Telling.made(statements);
        for (int tile = 0; tile < 24; tile++) {
            x.cracks(tile);
        }
        return x;
    }

    // ---- promises 37 and 38

    private static void image() {
        test("promise 37: at NIGHT 0, 1 and 999", () -> {
            for (int night : new int[] {0, 1, 998, 999}) {
                due("image()", Telling.atNight(night).image(), night);
            }
        });
        test("promise 37: taking it changes nothing that there is", () -> {
            TilesGoAbout x = Telling.made(SEVEN + "n09;p33;c04;s02;");
            List<Integer> before = Telling.now(x);
            due("image()", x.image(), 9);
            CHECKS.holds("all is as before", before.equals(Telling.now(x)));
        });
        test("promise 37: another in its place", () -> {
            TilesGoAbout x = Telling.made("n01;");
            x.image();
            x.nights(1);
            due("image()", x.image(), 2);
            x.nights(1);
            due("on()", x.on(), 2);
        });
    }

    private static void on() {
        test("promise 38: -3 without an IMAGE, of nobody and of all", () -> {
            TilesGoAbout x = new TilesGoAbout();
            due("on()", x.on(), -3);
            due("count(13)", x.count(13), 1);
            TilesGoAbout y = Telling.made(SEVEN + "n09;");
            List<Integer> before = Telling.now(y);
            due("on()", y.on(), -3);
            due("on()", y.on(), -3);
            due("count(13)", y.count(13), 2);
            CHECKS.holds("all is as before", before.equals(Telling.now(y)));
        });
        test("promise 38: not -3 any more with one of nobody in NIGHT 0", () -> {
            TilesGoAbout x = new TilesGoAbout();
            x.image();
            due("on()", x.on(), 0);
            due("count(13)", x.count(13), 0);
        });
        test("promise 38: NIGHT 999, and NIGHTS can go by once more", () -> {
            TilesGoAbout x = Telling.atNight(939);
            x.image();
            due("nights(60)", x.nights(60), 0);
            due("nights(1)", x.nights(1), -6);
            due("on()", x.on(), 939);
            due("nights(60)", x.nights(60), 0);
            x.image();
            due("on()", x.on(), 999);
            due("nights(1)", x.nights(1), -6);
        });
        test("promise 38: again and again, THE IMAGE stays", () -> {
            TilesGoAbout x = Telling.made(SEVEN);
            x.image();
            List<Integer> then = Telling.now(x);
            for (int i = 0; i < 3; i++) {
                Telling.tell(x, "n05;c03;s07;p44;");
                due("on()", x.on(), 0);
                CHECKS.holds("all is as then", then.equals(Telling.now(x)));
            }
        });
    }

    /** ON from an IMAGE of these statements, with those told behind it: all is as then, and so are the NIGHTS to come. */
    private static void comesBack(String statements, String behind) {
        TilesGoAbout x = Telling.made(statements);
        x.image();
        Telling.tell(x, behind);
        x.on();
        TilesGoAbout y = Telling.made(statements);
        CHECKS.holds("ON from " + statements + " behind " + behind, Telling.now(x).equals(Telling.now(y)));
        if (y.count(1) <= 939) {
            x.nights(60);
            y.nights(60);
            CHECKS.holds("60 NIGHTS on", Telling.now(x).equals(Telling.now(y)));
        }
    }

    private static void whatIsInIt() {
        test("promise 38: all that there is, one thing by itself", () -> {
            String there = "lk000;ls309;lf400;a107;p02;c04;s21;n03;";
            comesBack(there, "n01;");
            comesBack(there, "c04;");
            comesBack(there, "c00;c23;");
            comesBack(there, "s00;");
            comesBack(there, "a020;");
            comesBack(there, "p19;");
            comesBack(there, "lk000;");
            comesBack(there, "n60;lk123;ln922;lw500;lk618;a623;p39;");
        });
        test("promise 38: KIND and FIGURE", () -> {
            TilesGoAbout x = Telling.made("lk000;lf908;");
            x.image();
            x.turn(0, 5, 9);
            x.turn(1, 0, 0);
            x.on();
            due("KIND and FIGURE of 0", x.turn(0, 0, 0), 0);
            due("KIND and FIGURE of 1", x.turn(1, 0, 0), 29);
        });
        test("promise 38: from all seven to nobody, and from nobody to all seven", () -> {
            comesBack("", SEVEN);
            TilesGoAbout x = new TilesGoAbout();
            x.image();
            Telling.tell(x, SEVEN);
            due("an 8th", x.comesIn(0, 0, 0), -6);
            x.on();
            due("count(0)", x.count(0), 0);
            due("little(0, 0)", x.little(0, 0), -1);
            due("comesIn(5, 9, 23)", x.comesIn(5, 9, 23), 0);
            TilesGoAbout y = Telling.made("lh109;");
            y.image();
            Telling.tell(y, "lk000;lk000;lk000;lk000;lk000;lk000;");
            y.on();
            due("count(0)", y.count(0), 1);
            due("comesIn(0, 0, 0)", y.comesIn(0, 0, 0), 1);
        });
        test("promise 38: none CRACKED and all", () -> {
            TilesGoAbout x = crackedAll("");
            x.image();
            for (int tile = 0; tile < 24; tile++) {
                x.cracks(tile);
            }
            x.on();
            due("all", x.count(2), Telling.EVERY_TILE);
            TilesGoAbout y = new TilesGoAbout();
            y.image();
            for (int tile = 0; tile < 24; tile++) {
                y.cracks(tile);
            }
            y.on();
            due("none", y.count(2), 0);
        });
    }

    private static void whatIsNotInIt() {
        test("promise 38: not the ROW, with none and with 16", () -> {
            TilesGoAbout x = Telling.made("lk005;");
            x.image();
            for (int i = 0; i < 16; i++) {
                x.row(5);
            }
            x.on();
            due("count(6)", x.count(6), 16);
            x.image();
            due("clear()", x.clear(), 16);
            x.on();
            due("count(6)", x.count(6), 0);
        });
        test("promise 38: not letters, with none and with 96", () -> {
            TilesGoAbout x = new TilesGoAbout();
            x.image();
            Telling.spell(x, "c05;".repeat(24));
            x.on();
            due("count(7)", x.count(7), 96);
            x.image();
            due("chimney()", x.chimney(), 24);
            x.on();
            due("count(7)", x.count(7), 0);
        });
        test("promise 38: not REFUSALS", () -> {
            TilesGoAbout x = new TilesGoAbout();
            x.on();
            x.cracks(24);
            x.image();
            x.cracks(24);
            x.crowd(7);
            x.on();
            due("count(11)", x.count(11), 2);
            due("count(12)", x.count(12), 1);
            due("count(13)", x.count(13), 1);
        });
    }

    // ---- promise 39

    private static void count() {
        test("promise 39: of a new object and of a full one", () -> {
            int[] least = {0, 0, 0, 23, 0, 0, 0, 0};
            int[] greatest = {7, 999, Telling.EVERY_TILE, 0, 127, 7, 16, 96};
            TilesGoAbout x = Telling.atNight(999);
            Telling.tell(x, SEVEN + "s00;p09;p11;p21;p31;p41;p51;p61;");
            for (int tile = 0; tile < 24; tile++) {
                x.cracks(tile);
            }
            for (int i = 0; i < 96; i++) {
                x.letter(0);
            }
            for (int i = 0; i < 16; i++) {
                x.row(0);
            }
            for (int what = 0; what <= 7; what++) {
                due("count(" + what + ") of a new object", new TilesGoAbout().count(what), least[what]);
                due("count(" + what + ") of a full one", x.count(what), greatest[what]);
            }
        });
        test("promise 39: -9 for another what, and nothing is counted", () -> {
            TilesGoAbout x = new TilesGoAbout();
            for (int what : new int[] {Telling.TINY, -11, -2, -1, 8, 9, 10, 17, 18, 100, Telling.HUGE}) {
                due("count(" + what + ")", x.count(what), -9);
            }
            for (int what = 11; what <= 16; what++) {
                due("count(" + what + ")", x.count(what), 0);
            }
        });
    }

    private static void countOfRefusals() {
        test("promise 39: each of the REFUSALS by itself, -5 never", () -> {
            TilesGoAbout x = new TilesGoAbout();
            int[] due = new int[7];
            for (int round = 0; round < 5; round++) {
                for (int number = 1; number <= 6; number++) {
                    if (number == 5) {
                        continue;
                    }
                    refuse(x, number);
                    due[number]++;
                    for (int i = 1; i <= 6; i++) {
                        due("count(" + (10 + i) + ")", x.count(10 + i), due[i]);
                    }
                }
            }
        });
        test("promise 39: REFUSALS of longs are counted by the number that they are less", () -> {
            TilesGoAbout x = Telling.made("lk000;");
            x.coals(1, 0, 2, 0);
            x.coals(0, -1, 2, 0);
            x.coals(0, 8, 2, 0);
            x.coals(0, 0, 2, 2);
            x.mean(2);
            int[] due = {1, 2, 0, 1, 0, 1};
            for (int i = 0; i < 6; i++) {
                due("count(" + (11 + i) + ")", x.count(11 + i), due[i]);
            }
        });
    }

    private static void refuse(TilesGoAbout x, int number) {
        switch (number) {
            case 1: due("cracks(24)", x.cracks(24), -1); break;
            case 2: due("crowd(7)", x.crowd(7), -2); break;
            case 3: due("on()", x.on(), -3); break;
            case 4: due("order(-1)", x.order(-1), -4); break;
            default: due("letter(256)", x.letter(256), -6); break;
        }
    }

    // ---- the calls of an object

    private static void calls() {
        test("promise 39: the 512th call answers still, of 511 REFUSALS", () -> {
            TilesGoAbout x = new TilesGoAbout();
            for (int i = 0; i < 511; i++) {
                x.cracks(-1);
            }
            due("count(11)", x.count(11), 511);
        });
        test("promises 24, 30 and 36: 512 of the dearest calls answer all alike", () -> {
            TilesGoAbout x = Telling.made("ls022;ls022;ls022;ls022;ls022;ls022;ls022;");
            for (int i = 0; i < 168; i++) {
                due("fewest(9)", x.fewest(9), 127);
                due("coals(0, 7, 20, 0)", x.coals(0, 7, 20, 0), 1279999999L);
                due("shipBest(20, 1)", x.shipBest(20, 1), 7);
            }
            due("NIGHT", x.count(1), 0);
        });
    }
}
