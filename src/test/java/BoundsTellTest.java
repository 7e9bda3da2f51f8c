import java.util.ArrayList;
import java.util.Arrays;
import java.util.List;
import java.util.function.IntPredicate;

/** Promises 1 to 3: a test for each sentence that names a boundary case; what is refused stands in RefusalsTest. */
public final class BoundsTellTest {
    private static final Checks CHECKS = new Checks();

    public static void main(String[] args) {
        newObject();
        letter();
        chimneyAsWhole();
        chimneyForms();
        faultOfKind1();
        numbersInRange();
        numbersOfSomebody();
        nightsInTime();
        roomForOnes();
        faultOfKind2();
        whatComes();
        CHECKS.end();
    }

    private static void test(String name, Runnable body) {
        CHECKS.test(name, body);
    }

    private static void due(String call, long got, long want) {
        CHECKS.due(call, got, want);
    }

    /** Of an object made by these statements the letters answer so. */
    private static void told(String statements, String letters, int want) {
        due("chimney() of \"" + letters + "\" behind \"" + statements + "\"",
            Telling.chimney(Telling.made(statements), letters), want);
    }

    private static void told(String letters, int want) {
        told("", letters, want);
    }

    // ---- promise 1

    private static void newObject() {
        test("promise 1: nobody", () -> {
            TilesGoAbout x = new TilesGoAbout();
            due("count(0)", x.count(0), 0);
            due("little(0, 3)", x.little(0, 3), -1);
            due("count(4)", x.count(4), 0);
            due("count(5)", x.count(5), 0);
            due("crowd(6)", x.crowd(6), Telling.EVERY_TILE);
            for (int tile = 0; tile < 24; tile++) {
                due("tile(" + tile + ", 1)", x.tile(tile, 1), 0);
            }
        });
        test("promise 1: no TILE CRACKED", () -> {
            TilesGoAbout x = new TilesGoAbout();
            due("count(2)", x.count(2), 0);
            for (int tile = 0; tile < 24; tile++) {
                due("tile(" + tile + ", 0)", x.tile(tile, 0), 0);
            }
        });
        test("promise 1: THE SHIP on 23", () -> {
            due("count(3)", new TilesGoAbout().count(3), 23);
            due("ship(0)", new TilesGoAbout().ship(0), 23);
        });
        test("promise 1: NIGHT 0", () -> {
            due("count(1)", new TilesGoAbout().count(1), 0);
            due("image()", new TilesGoAbout().image(), 0);
        });
        test("promise 1: no letters, no ROW, no REFUSALS, no IMAGE", () -> {
            TilesGoAbout x = new TilesGoAbout();
            due("count(6)", x.count(6), 0);
            due("count(7)", x.count(7), 0);
            for (int what = 11; what <= 16; what++) {
                due("count(" + what + ")", x.count(what), 0);
            }
            due("on()", x.on(), -3);
        });
        test("promise 1: one object has nothing of another's", () -> {
            TilesGoAbout full = Telling.made("lk000;c05;s07;n09;");
            full.letter('c');
            full.row(5);
            full.image();
            full.tile(24, 0);
            CHECKS.holds("a new one is as if there were no other",
                Telling.everything(new TilesGoAbout()).equals(List.of(0, 0, 0, 23, 0, 0, 0, 0, -9, -1000,
                    0, 0, 0, 23, 0, 0, 0, 0, -3, 0, 0, 0, 23, 0, 0, 0, 0)));
        });
    }

    // ---- promise 2

    private static void letter() {
        test("promise 2: 0 and 255 come, -1 and 256 do not", () -> {
            TilesGoAbout x = new TilesGoAbout();
            due("letter(-1)", x.letter(-1), -4);
            due("letter(0)", x.letter(0), 1);
            due("letter(1)", x.letter(1), 2);
            due("letter(254)", x.letter(254), 3);
            due("letter(255)", x.letter(255), 4);
            due("letter(256)", x.letter(256), -6);
            due("count(7)", x.count(7), 4);
        });
        test("promise 2: 96 letters have room, a 97th has none", () -> {
            TilesGoAbout x = new TilesGoAbout();
            for (int i = 1; i <= 96; i++) {
                due("letter('c')", x.letter('c'), i);
            }
            due("the 97th", x.letter('c'), -6);
            due("the 97th, 255", x.letter(255), -6);
            due("the 97th, 256", x.letter(256), -6);
            due("the 97th, -1", x.letter(-1), -4);
            due("count(7)", x.count(7), 96);
        });
        test("promise 2: behind chimney() there is room for 96 once more", () -> {
            TilesGoAbout x = new TilesGoAbout();
            due("a FAULT", Telling.chimney(x, "z".repeat(96)), -1000);
            due("a CHIMNEY", Telling.chimney(x, "c05;".repeat(24)), 24);
            for (int i = 1; i <= 96; i++) {
                due("letter('c')", x.letter('c'), i);
            }
            due("the 97th", x.letter('c'), -6);
        });
    }

    // ---- promise 3: its letters

    private static void chimneyAsWhole() {
        test("promise 3: at least one STATEMENT", () -> {
            told("", -1000);
            told(";", -1000);
            told("c05;", 1);
        });
        test("promise 3: 96 letters, to the last", () -> {
            told("c05;".repeat(24), 24);
            told("lk000;".repeat(6) + "c05;".repeat(15), 21);
            told("c05;".repeat(23) + "c05", -1095);
            told("c05;".repeat(22) + "c05;a005", -1096);
            told("lk000;", "c05;".repeat(21) + "c05;a000;", 23);
        });
        test("promise 3: each STATEMENT with \";\" behind", () -> {
            told("c05", -1003);
            told("c05;c06", -1007);
            told("c05;c06;", 2);
            told("c05;;", -1004);
            told(";c05;", -1000);
            told("c05c06;", -1003);
        });
    }

    private static final IntPredicate FIRST = c -> "lacspn".indexOf(c) >= 0;
    private static final IntPredicate KIND = c -> "khfswn".indexOf(c) >= 0;
    private static final IntPredicate DIGIT = c -> c >= '0' && c <= '9';
    private static final IntPredicate END = c -> c == ';';

    /**
     * Each letter 0 .. 255 behind each beginning of a STATEMENT: where it may stand, what lacks is told
     * at the end, and where it may not, it is the FAULT itself.
     */
    private static void form(String statement, IntPredicate... may) {
        test("promise 3: the form of \"" + statement + "\"", () -> {
            due("letters of it", statement.length(), may.length);
            for (String ahead : new String[] {"", "lk000;", "c05;c05;"}) {
                for (int place = 0; place < may.length; place++) {
                    for (int c = 0; c <= 255; c++) {
                        letterAt(ahead, statement, place, c, may[place].test(c));
                    }
                }
            }
        });
    }

    private static void letterAt(String ahead, String statement, int place, int c, boolean may) {
        TilesGoAbout x = Telling.made("lk000;");
        Telling.spell(x, ahead + statement.substring(0, place));
        x.letter(c);
        int at = ahead.length() + place;
        String told = "\"" + ahead + statement.substring(0, place) + "\" and " + c;
        if (!may) {
            due(told, x.chimney(), -1000 - at);
        } else if (place < statement.length() - 1) {
            due(told, x.chimney(), -1000 - at - 1);
        } else {
            CHECKS.holds(told + " is a CHIMNEY", x.chimney() > 0);
        }
    }

    private static void chimneyForms() {
        form("lk000;", FIRST, KIND, DIGIT, DIGIT, DIGIT, END);
        form("ln923;", FIRST, KIND, DIGIT, DIGIT, DIGIT, END);
        form("a000;", FIRST, DIGIT, DIGIT, DIGIT, END);
        form("c00;", FIRST, DIGIT, DIGIT, END);
        form("s00;", FIRST, DIGIT, DIGIT, END);
        form("p09;", FIRST, DIGIT, DIGIT, END);
        form("n01;", FIRST, DIGIT, DIGIT, END);
        test("promise 3: every letter for a KIND is its own", () -> {
            for (int kind = 0; kind < 6; kind++) {
                TilesGoAbout x = new TilesGoAbout();
                due("chimney()", Telling.chimney(x, "l" + Telling.KINDS.charAt(kind) + "000;"), 1);
                due("KIND", x.little(0, 0), kind);
            }
        });
    }

    private static void faultOfKind1() {
        test("promise 3, FAULT kind 1: the first place, the last, and the end", () -> {
            told("z05;", -1000);
            told("c05;".repeat(23) + "c05z", -1095);
            told("c05;".repeat(23) + "c05", -1095);
            told("c05;".repeat(23) + "c0", -1094);
            told("c05;".repeat(23) + "z", -1092);
            told("lk000;".repeat(15) + "c05;ss", -1095);
            told("c05;".repeat(22) + "lk000;s0", -1096);
        });
        test("promise 3, FAULT kind 1: the first of several", () -> {
            told("c0z;zz", -1002);
            told("zz", -1000);
            told("c05;z;c0z;", -1004);
        });
        test("promise 3, FAULT kind 1: of too few digits and too many", () -> {
            told("c5;", -1002);
            told("c005;", -1003);
            told("lk00;", -1004);
            told("lk0000;", -1005);
            told("a00;", -1003);
            told("a0000;", -1004);
            told("p0;", -1002);
            told("p000;", -1003);
            told("n1;", -1002);
            told("n001;", -1003);
        });
        test("promise 3, FAULT kind 1 comes before one of kind 2 ahead of it", () -> {
            told("c24;", -2000);
            told("c24;c", -1005);
            told("c24;z", -1004);
            told("n00;a900;c0:;", -1011);
        });
    }

    // ---- promise 3: its numbers

    private static void inRange(String name, String before, String behind, int... borders) {
        test("promise 3, FAULT kind 2: " + name, () -> {
            for (int number = 0; number <= 99; number++) {
                boolean in = number >= borders[0] && number <= borders[1];
                told("lk000;", before + String.format("%02d", number) + behind, in ? 1 : -2000);
            }
        });
    }

    private static void numbersInRange() {
        inRange("HOME a TILE", "lk0", ";", 0, 23);
        inRange("the TILE of \"a\"", "a0", ";", 0, 23);
        inRange("the TILE of \"c\"", "c", ";", 0, 23);
        inRange("the TILE of \"s\"", "s", ";", 0, 23);
        inRange("NIGHTS 1 .. 60", "n", ";", 1, 60);
        inRange("PINNED 0 .. 9, nobody but 0 there", "p", ";", 0, 9);
        test("promise 3: FIGURE 0 .. 9", () -> {
            for (int figure = 0; figure <= 9; figure++) {
                TilesGoAbout x = new TilesGoAbout();
                due("chimney()", Telling.chimney(x, "lk" + figure + "00;"), 1);
                due("FIGURE", x.little(0, 1), figure);
            }
        });
        test("promise 3: PINNED 0 .. 9", () -> {
            for (int nights = 0; nights <= 9; nights++) {
                TilesGoAbout x = Telling.made("lk005;a007;");
                due("chimney()", Telling.chimney(x, "p0" + nights + ";"), 1);
                due("PINNED", x.little(0, 4), nights);
                due("HOME", x.little(0, 3), 5);
            }
        });
    }

    private static void numbersOfSomebody() {
        test("promise 3, FAULT kind 2: nobody so far with that number", () -> {
            String all = "";
            for (int many = 0; many <= 7; many++) {
                for (int one = 0; one <= 9; one++) {
                    told(all, "a" + one + "05;", one < many ? 1 : -2000);
                    told(all, "p" + one + "5;", one < many ? 1 : -2000);
                }
                all += "lk000;";
            }
        });
        test("promise 3, FAULT kind 2: so far, by the text ahead alone", () -> {
            told("lk000;a005;", 2);
            told("a005;lk000;", -2000);
            told("lk000;a105;lk000;", -2006);
            told("lk000;lk000;a105;", 3);
            told("p00;lk000;", -2000);
            told("lk000;p10;", -2006);
            told("lk000;", "a105;lk000;", -2000);
            told("lk000;", "lk000;a105;", 2);
        });
    }

    private static void nightsInTime() {
        test("promise 3, FAULT kind 2: NIGHT 999 comes, NIGHT 1000 does not", () -> {
            for (int night = 938; night <= 999; night++) {
                for (int n : new int[] {1, 59, 60}) {
                    TilesGoAbout x = Telling.atNight(night);
                    boolean comes = night + n <= 999;
                    due("\"n" + n + ";\" at NIGHT " + night, Telling.chimney(x, String.format("n%02d;", n)), comes ? 1 : -2000);
                    due("NIGHT", x.count(1), comes ? night + n : night);
                }
            }
        });
        test("promise 3, FAULT kind 2: NIGHT above 999 by several together", () -> {
            due("to 999", Telling.chimney(Telling.atNight(900), "n60;n39;"), 2);
            TilesGoAbout x = Telling.atNight(900);
            due("to 1000", Telling.chimney(x, "n60;n40;"), -2004);
            due("NIGHT", x.count(1), 900);
            told("n60;".repeat(16) + "n39;", 17);
            told("n60;".repeat(16) + "n40;", -2064);
            told("n60;".repeat(16) + "n39;n01;", -2068);
        });
    }

    private static void roomForOnes() {
        test("promise 3, FAULT kind 2: 7 have room, an 8th has none", () -> {
            String all = "";
            for (int many = 0; many <= 7; many++) {
                told(all, "lk000;", many < 7 ? 1 : -2000);
                told(all, "lk000;".repeat(7 - many) + "s05;", 8 - many);
                told(all, "lk000;".repeat(8 - many), -2000 - 6 * (7 - many));
                all += "lk000;";
            }
        });
    }

    private static void faultOfKind2() {
        test("promise 3, FAULT kind 2: the place of the STATEMENT's first letter", () -> {
            told("c24;", -2000);
            told("c05;c24;", -2004);
            told("lk000;a024;", -2006);
            told("c05;".repeat(23) + "c24;", -2092);
            told("c05;".repeat(22) + "c05;s99;", -2092);
        });
        test("promise 3, FAULT kind 2: the first of several", () -> {
            told("c05;c24;c99;n00;", -2004);
            told("n61;a000;", -2000);
        });
        test("promise 3: with a FAULT nothing comes, not even what is ahead of it", () -> {
            String there = "ls305;lf904;a107;p14;c09;s11;n03;";
            for (String letters : new String[] {"lk000;s05;c01;p03;n09;c24;", "a000;p19;s00;z", "s05;a00", "lk000;".repeat(6)}) {
                TilesGoAbout x = Telling.made(there);
                CHECKS.holds("a FAULT", Telling.chimney(x, letters) < 0);
                CHECKS.holds("nothing is as before but the letters",
                    Telling.everything(x).equals(Telling.everything(Telling.made(there))));
            }
        });
        test("promise 3: with a FAULT nothing is counted", () -> {
            for (String letters : new String[] {"", "z", "c24;", "a000;", "n61;", "c05;"}) {
                TilesGoAbout x = new TilesGoAbout();
                Telling.chimney(x, letters);
                CHECKS.holds("no REFUSALS", Arrays.equals(Telling.refusals(x), new int[7]));
            }
        });
        test("promise 3: the letters are no more, with a FAULT neither", () -> {
            for (String letters : new String[] {"c05;", "z", "c05", "c24;", "c05;".repeat(24), "c".repeat(96)}) {
                TilesGoAbout x = new TilesGoAbout();
                Telling.chimney(x, letters);
                due("count(7)", x.count(7), 0);
                due("chimney() once more", x.chimney(), -1000);
                due("another CHIMNEY", Telling.chimney(x, "s05;"), 1);
            }
        });
    }

    private static void whatComes() {
        test("promise 3: told again, not CRACKED", () -> {
            List<Integer> want = new ArrayList<>(List.of(32, 0, 32));
            for (int times = 1; times <= 3; times++) {
                TilesGoAbout x = new TilesGoAbout();
                due("chimney()", Telling.chimney(x, "c05;".repeat(times)), times);
                due("CRACKED", x.count(2), want.get(times - 1));
            }
            TilesGoAbout y = Telling.made("c05;");
            due("chimney()", Telling.chimney(y, "c05;c00;c23;"), 3);
            due("CRACKED", y.count(2), 1 | 1 << 23);
        });
        test("promise 3: THE SHIP on TILE 0 and on TILE 23", () -> {
            for (int tile = 0; tile < 24; tile++) {
                TilesGoAbout x = Telling.made("s09;");
                due("chimney()", Telling.chimney(x, String.format("s%02d;", tile)), 1);
                due("count(3)", x.count(3), tile);
            }
        });
        test("promise 3: he is there, on TILE 0 and on TILE 23, the first and the last", () -> {
            for (int one = 0; one < 7; one++) {
                for (int tile = 0; tile < 24; tile++) {
                    TilesGoAbout x = Telling.made("lk009;lk009;lk009;lk009;lk009;lk009;lk009;");
                    due("chimney()", Telling.chimney(x, String.format("a%d%02d;", one, tile)), 1);
                    due("tile(" + tile + ", 1)", x.tile(tile, 1), tile == 9 ? 127 : 1 << one);
                }
            }
        });
        test("promise 3: each comes behind what is ahead of it in the text", () -> {
            TilesGoAbout x = new TilesGoAbout();
            due("chimney()", Telling.chimney(x, "n02;lk000;n02;lk000;n01;"), 5);
            due("the first", x.little(0, 3), 3);
            due("the second", x.little(1, 3), 1);
            due("NIGHT", x.count(1), 5);
            TilesGoAbout y = new TilesGoAbout();
            due("chimney()", Telling.chimney(y, "lk000;a005;p03;"), 3);
            due("PINNED and HOME", y.little(0, 3), 0);
            TilesGoAbout z = new TilesGoAbout();
            due("chimney()", Telling.chimney(z, "lk000;p03;a005;"), 3);
            due("he is there", z.little(0, 3), 5);
            due("still PINNED", z.little(0, 4), 3);
        });
        test("promise 3: all that there is room for comes", () -> {
            TilesGoAbout x = new TilesGoAbout();
            due("chimney()", Telling.chimney(x, "lk000;lh123;lf205;ls318;lw412;ln922;lk707;"), 7);
            int[] homes = {0, 23, 5, 18, 12, 22, 7};
            int[] figures = {0, 1, 2, 3, 4, 9, 7};
            for (int one = 0; one < 7; one++) {
                due("KIND", x.little(one, 0), one % 6);
                due("FIGURE", x.little(one, 1), figures[one]);
                due("HOME", x.little(one, 2), homes[one]);
                due("TILE", x.little(one, 3), homes[one]);
                due("PINNED", x.little(one, 4), 0);
            }
            StringBuilder cracks = new StringBuilder();
            for (int tile = 0; tile < 24; tile++) {
                cracks.append(String.format("c%02d;", tile));
            }
            due("all CRACKED", Telling.chimney(x, cracks.toString()), 24);
            due("count(2)", x.count(2), Telling.EVERY_TILE);
        });
    }
}
