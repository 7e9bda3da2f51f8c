import java.util.ArrayList;
import java.util.List;
import java.util.function.LongSupplier;

/** Each promise of the document, by answers that were told by hand. */
public final class PromisesTest {
    private static final Checks CHECKS = new Checks();
    private static final long LONG = 4000000000000000000L;
    private static final int HUGE = Integer.MAX_VALUE;
    private static final int TINY = Integer.MIN_VALUE;
    /** NIGHT is 999 behind it. */
    private static final String TO_THE_LAST_NIGHT = "n60;".repeat(16) + "n39;";

    public static void main(String[] args) {
        newObject();
        letter();
        chimneyForm();
        chimneySense();
        chimneyComes();
        little();
        tile();
        comesIn();
        stands();
        cracks();
        ship();
        pins();
        turn();
        nights();
        nightsRefused();
        oneThen();
        aboard();
        comes();
        sails();
        meets();
        still();
        far();
        cutOff();
        shipBest();
        mend();
        pin();
        fewest();
        bestKind();
        crowd();
        farthest();
        order();
        two();
        coals();
        mean();
        whatIs();
        row();
        judge();
        clear();
        lots();
        image();
        count();
        CHECKS.end();
    }

    // ---- helpers

    private static void due(String call, long got, long want) {
        CHECKS.due(call, got, want);
    }

    private static void spell(TilesGoAbout x, String text) {
        for (int i = 0; i < text.length(); i++) {
            x.letter(text.charAt(i));
        }
    }

    private static TilesGoAbout told(String chimney) {
        TilesGoAbout x = new TilesGoAbout();
        tell(x, chimney);
        return x;
    }

    private static void tell(TilesGoAbout x, String chimney) {
        spell(x, chimney);
        CHECKS.holds("a CHIMNEY of the test's own: " + chimney, x.chimney() > 0);
    }

    /** All that can be asked without a thought, but the REFUSALS. */
    private static List<Long> all(TilesGoAbout x) {
        List<Long> all = new ArrayList<>();
        for (int what = 0; what < 8; what++) {
            all.add((long) x.count(what));
        }
        for (int one = 0; one < x.count(0); one++) {
            for (int what = 0; what < 7; what++) {
                all.add((long) x.little(one, what));
            }
        }
        return all;
    }

    /** The call answers so, and nothing changes but how many REFUSALS of its number there were. */
    private static void refused(TilesGoAbout x, String call, LongSupplier made, long want) {
        int number = (int) (want > 0 ? LONG - want : want);
        List<Long> before = all(x);
        int[] were = new int[7];
        for (int i = 1; i < 7; i++) {
            were[i] = x.count(10 + i);
        }
        due(call, made.getAsLong(), want);
        for (int i = 1; i < 7; i++) {
            due("count(" + (10 + i) + ") behind " + call, x.count(10 + i), were[i] + (i == -number ? 1 : 0));
        }
        CHECKS.holds(call + " changed something", before.equals(all(x)));
    }

    private static void kindOne(String chimney, int want) {
        TilesGoAbout x = new TilesGoAbout();
        spell(x, chimney);
        due("chimney() of \"" + chimney + "\"", x.chimney(), want);
        due("letters behind it", x.count(7), 0);
        for (int i = 11; i < 17; i++) {
            due("count(" + i + ") behind a CHIMNEY", x.count(i), 0);
        }
        if (want < 0) {
            CHECKS.holds("a FAULT changed something: " + chimney, all(x).equals(all(new TilesGoAbout())));
        }
    }

    private static void at(TilesGoAbout x, int... tiles) {
        for (int one = 0; one < tiles.length; one++) {
            due("little(" + one + ", 3)", x.little(one, 3), tiles[one]);
        }
    }

    private static int cracked(TilesGoAbout x) {
        return x.count(2);
    }

    // ---- the promises

    private static void newObject() {
        CHECKS.about("promise 1");
        TilesGoAbout x = new TilesGoAbout();
        for (int what = 0; what <= 7; what++) {
            due("count(" + what + ")", x.count(what), what == 3 ? 23 : 0);
        }
        for (int what = 11; what <= 16; what++) {
            due("count(" + what + ")", x.count(what), 0);
        }
        due("on()", x.on(), -3);
    }

    private static void letter() {
        CHECKS.about("promise 2");
        TilesGoAbout x = new TilesGoAbout();
        due("letter(0)", x.letter(0), 1);
        due("letter(255)", x.letter(255), 2);
        refused(x, "letter(-1)", () -> x.letter(-1), -4);
        refused(x, "letter(TINY)", () -> x.letter(TINY), -4);
        refused(x, "letter(256)", () -> x.letter(256), -6);
        refused(x, "letter(HUGE)", () -> x.letter(HUGE), -6);
        for (int i = 3; i <= 96; i++) {
            due("letter('c')", x.letter('c'), i);
        }
        refused(x, "letter('c'), the 97th", () -> x.letter('c'), -6);
        refused(x, "letter(-1), the 97th", () -> x.letter(-1), -4);
        due("count(7)", x.count(7), 96);
        due("chimney()", x.chimney(), -1000);
        due("count(7)", x.count(7), 0);
        due("letter('c')", x.letter('c'), 1);
    }

    private static void chimneyForm() {
        CHECKS.about("promise 3, FAULT kind 1");
        kindOne("", -1000);
        kindOne("z", -1000);
        kindOne(";", -1000);
        kindOne("0", -1000);
        kindOne("C05;", -1000);
        kindOne("c", -1001);
        kindOne("c0", -1002);
        kindOne("c05", -1003);
        kindOne("c0x;", -1002);
        kindOne("c0;", -1002);
        kindOne("c005;", -1003);
        kindOne("c05;;", -1004);
        kindOne("c05 ;", -1003);
        kindOne("s1:;", -1002);
        kindOne("s/1;", -1001);
        kindOne("lk000", -1005);
        kindOne("lx000;", -1001);
        kindOne("l0000;", -1001);
        kindOne("lk00;", -1004);
        kindOne("lkk00;", -1002);
        kindOne("lk000;l", -1007);
        kindOne("lk000;a0000;", -1010);
        kindOne("lk000;a00;", -1009);
        kindOne("lk000;p000;", -1009);
        kindOne("lk000;p0;", -1008);
        kindOne("n001;", -1003);
        kindOne("c24;z", -1004);
        kindOne("a000;c0", -1007);
        kindOne("c05;".repeat(23) + "c05", -1095);
        kindOne("c05;".repeat(24), 24);
        kindOne("c05;".repeat(23) + "lk00", -1096);
        kindOne("lk000;".repeat(15) + "c24;cc", -1095);
    }

    private static void chimneySense() {
        CHECKS.about("promise 3, FAULT kind 2");
        kindOne("c24;", -2000);
        kindOne("c23;", 1);
        kindOne("s24;", -2000);
        kindOne("s00;", 1);
        kindOne("lk024;", -2000);
        kindOne("lk923;", 1);
        kindOne("a000;", -2000);
        kindOne("p00;", -2000);
        kindOne("a005;lk000;", -2000);
        kindOne("lk000;a024;", -2006);
        kindOne("lk000;a123;", -2006);
        kindOne("lk000;p19;", -2006);
        kindOne("lk000;p09;c99;s99;", -2010);
        kindOne("n00;", -2000);
        kindOne("n01;", 1);
        kindOne("n60;", 1);
        kindOne("n61;", -2000);
        kindOne("lk000;".repeat(7), 7);
        kindOne("lk000;".repeat(8), -2042);
        kindOne(TO_THE_LAST_NIGHT, 17);
        kindOne("n60;".repeat(16) + "n40;", -2064);
        kindOne(TO_THE_LAST_NIGHT + "n01;", -2068);
    }

    private static void chimneyComes() {
        CHECKS.about("promise 3");
        TilesGoAbout x = told("lk000;lh110;lf220;ls303;lw417;ln923;");
        for (int one = 0; one < 6; one++) {
            due("KIND", x.little(one, 0), one);
            due("FIGURE", x.little(one, 1), one == 5 ? 9 : one);
        }
        at(x, 0, 10, 20, 3, 17, 23);
        due("count(0)", x.count(0), 6);

        TilesGoAbout y = told("ls521;n02;");
        due("count(4)", y.count(4), 1);
        due("count(1)", y.count(1), 2);
        tell(y, "a005;c05;c07;s06;");
        at(y, 5);
        due("HOME stays", y.little(0, 2), 21);
        due("CRACKED", cracked(y), 1 << 5 | 1 << 7);
        due("THE SHIP", y.count(3), 6);
        tell(y, "c05;p04;");
        due("CRACKED, told again", cracked(y), 1 << 7);
        at(y, 21);
        due("PINNED", y.little(0, 4), 4);
        spell(y, "lk000;c24;");
        due("chimney()", y.chimney(), -2006);
        due("nothing came with a FAULT", y.count(0), 1);
        spell(y, "lk000;c2");
        due("chimney()", y.chimney(), -1008);
        due("nothing came with a FAULT", y.count(0), 1);
        due("PINNED", y.little(0, 4), 4);
    }

    private static void wayOf(String chimney, int want) {
        due("the WAY of 0 in " + chimney, told(chimney).little(0, 6), want);
    }

    private static void little() {
        CHECKS.about("promise 4");
        TilesGoAbout x = told("lk000;lf321;a120;p15;a023;");
        due("little(1, 0)", x.little(1, 0), 2);
        due("little(1, 1)", x.little(1, 1), 3);
        due("little(1, 2)", x.little(1, 2), 21);
        due("little(1, 3)", x.little(1, 3), 21);
        due("little(1, 4)", x.little(1, 4), 5);
        due("little(1, 5)", x.little(1, 5), 0);
        due("little(0, 5)", x.little(0, 5), 1);
        refused(x, "little(-1, 0)", () -> x.little(-1, 0), -1);
        refused(x, "little(2, 9)", () -> x.little(2, 9), -1);
        refused(x, "little(HUGE, 0)", () -> x.little(HUGE, 0), -1);
        refused(x, "little(0, -1)", () -> x.little(0, -1), -2);
        refused(x, "little(0, 7)", () -> x.little(0, 7), -2);
        wayOf("lk000;", 1);
        wayOf("lk005;", 3);
        wayOf("lk004;c05;", 1);
        wayOf("lh000;", 2);
        wayOf("lh018;", 1);
        wayOf("lh023;s00;", 3);
        wayOf("lf321;", -9);
        wayOf("lf321;n04;", 1);
        wayOf("lf323;s00;n04;", 3);
        wayOf("lf321;n05;", -9);
        wayOf("lf000;" + TO_THE_LAST_NIGHT, 3);
        wayOf("ls000;", 2);
        wayOf("ls020;s02;", 0);
        wayOf("ls018;", 1);
        wayOf("ls023;s18;", 3);
        wayOf("ls023;", -9);
        wayOf("lw021;", 3);
        wayOf("lw021;n01;", 1);
        wayOf("lw018;", -9);
        wayOf("lw005;", -9);
        wayOf("lw011;", 0);
        wayOf("lw011;n01;", 2);
        wayOf("lw023;", -9);
        wayOf("ln021;", 1);
        wayOf("ln021;lk000;", -9);
        wayOf("ln021;ls023;", 1);
        wayOf("ln023;", -9);
    }

    private static void tile() {
        CHECKS.about("promise 5");
        TilesGoAbout x = told("lk005;lk006;lk005;c07;c05;");
        due("tile(5, 0)", x.tile(5, 0), 1);
        due("tile(6, 0)", x.tile(6, 0), 0);
        due("tile(5, 1)", x.tile(5, 1), 5);
        due("tile(6, 1)", x.tile(6, 1), 2);
        due("tile(23, 1)", x.tile(23, 1), 0);
        refused(x, "tile(-1, 0)", () -> x.tile(-1, 0), -1);
        refused(x, "tile(24, 7)", () -> x.tile(24, 7), -1);
        refused(x, "tile(0, -1)", () -> x.tile(0, -1), -2);
        refused(x, "tile(0, 2)", () -> x.tile(0, 2), -2);
    }

    private static void comesIn() {
        CHECKS.about("promise 6");
        TilesGoAbout x = new TilesGoAbout();
        refused(x, "comesIn(6, -1, 24)", () -> x.comesIn(6, -1, 24), -2);
        refused(x, "comesIn(-1, 0, 0)", () -> x.comesIn(-1, 0, 0), -2);
        refused(x, "comesIn(0, -1, 24)", () -> x.comesIn(0, -1, 24), -4);
        refused(x, "comesIn(0, 10, 24)", () -> x.comesIn(0, 10, 24), -6);
        refused(x, "comesIn(0, 0, 24)", () -> x.comesIn(0, 0, 24), -1);
        refused(x, "comesIn(0, 0, -1)", () -> x.comesIn(0, 0, -1), -1);
        // Another object: no answer is promised behind an object's 512th call.
        TilesGoAbout all = new TilesGoAbout();
        for (int i = 0; i < 7; i++) {
            due("comesIn", all.comesIn(i % 6, i, 23 - i), i);
            due("KIND", all.little(i, 0), i % 6);
            due("FIGURE", all.little(i, 1), i);
            due("HOME", all.little(i, 2), 23 - i);
            due("TILE", all.little(i, 3), 23 - i);
            due("PINNED", all.little(i, 4), 0);
        }
        refused(all, "comesIn(0, 0, 24), the 8th", () -> all.comesIn(0, 0, 24), -1);
        refused(all, "comesIn(0, 0, 0), the 8th", () -> all.comesIn(0, 0, 0), -6);

        TilesGoAbout y = told("lk000;");
        y.image();
        due("comesIn", y.comesIn(1, 0, 5), 1);
        y.pins(1, 9);
        y.on();
        due("comesIn in another's room", y.comesIn(1, 0, 5), 1);
        due("PINNED", y.little(1, 4), 0);
    }

    private static void stands() {
        CHECKS.about("promise 7");
        TilesGoAbout x = told("lk005;p03;c09;");
        due("stands(0, 9)", x.stands(0, 9), 5);
        due("stands(0, 9)", x.stands(0, 9), 9);
        due("HOME", x.little(0, 2), 5);
        due("PINNED", x.little(0, 4), 3);
        refused(x, "stands(1, 0)", () -> x.stands(1, 0), -1);
        refused(x, "stands(-1, 0)", () -> x.stands(-1, 0), -1);
        refused(x, "stands(0, 24)", () -> x.stands(0, 24), -1);
        refused(x, "stands(0, -1)", () -> x.stands(0, -1), -1);
    }

    private static void cracks() {
        CHECKS.about("promise 8");
        TilesGoAbout x = new TilesGoAbout();
        due("cracks(0)", x.cracks(0), 1);
        due("cracks(23)", x.cracks(23), 1);
        due("CRACKED", cracked(x), 1 | 1 << 23);
        due("cracks(0)", x.cracks(0), 0);
        due("CRACKED", cracked(x), 1 << 23);
        refused(x, "cracks(24)", () -> x.cracks(24), -1);
        refused(x, "cracks(-1)", () -> x.cracks(-1), -1);
        refused(x, "cracks(TINY)", () -> x.cracks(TINY), -1);
    }

    private static void ship() {
        CHECKS.about("promise 9");
        TilesGoAbout x = told("lk000;");
        due("ship(0)", x.ship(0), 23);
        due("ABOARD", x.count(4), 1);
        due("ship(5)", x.ship(5), 0);
        due("count(3)", x.count(3), 5);
        refused(x, "ship(24)", () -> x.ship(24), -1);
        refused(x, "ship(-1)", () -> x.ship(-1), -1);
    }

    private static void pins() {
        CHECKS.about("promise 10");
        TilesGoAbout x = told("lk005;a007;");
        due("pins(0, 9)", x.pins(0, 9), 7);
        at(x, 5);
        due("PINNED", x.little(0, 4), 9);
        due("pins(0, 0)", x.pins(0, 0), 5);
        due("PINNED", x.little(0, 4), 0);
        refused(x, "pins(1, -1)", () -> x.pins(1, -1), -1);
        refused(x, "pins(0, -1)", () -> x.pins(0, -1), -4);
        refused(x, "pins(0, 10)", () -> x.pins(0, 10), -6);
    }

    private static void turn() {
        CHECKS.about("promise 11");
        TilesGoAbout x = told("lf705;");
        due("turn(0, 5, 9)", x.turn(0, 5, 9), 27);
        due("turn(0, 0, 0)", x.turn(0, 0, 0), 59);
        due("turn(0, 0, 0)", x.turn(0, 0, 0), 0);
        refused(x, "turn(1, 6, -1)", () -> x.turn(1, 6, -1), -1);
        refused(x, "turn(0, 6, -1)", () -> x.turn(0, 6, -1), -2);
        refused(x, "turn(0, -1, 10)", () -> x.turn(0, -1, 10), -2);
        refused(x, "turn(0, 0, -1)", () -> x.turn(0, 0, -1), -4);
        refused(x, "turn(0, 0, 10)", () -> x.turn(0, 0, 10), -6);
    }

    private static void behind(String chimney, int n, int... tiles) {
        TilesGoAbout x = told(chimney);
        x.nights(n);
        CHECKS.about("promise 12, " + n + " NIGHTS of " + chimney);
        at(x, tiles);
    }

    private static void nights() {
        behind("lk000;", 5, 5);
        behind("lk000;", 6, 4);
        behind("lk000;", 7, 5);
        behind("lk000;c01;", 3, 0);
        behind("lk000;c00;", 3, 0);
        behind("lk000;s03;", 9, 3);
        behind("lh001;", 3, 19);
        behind("lh001;s00;", 60, 22);
        behind("lf100;", 2, 0);
        behind("lf100;", 3, 1);
        behind("lf100;", 6, 2);
        behind("ls000;", 8, 23);
        behind("ls000;c12;", 8, 6);
        behind("lw021;", 1, 20);
        behind("lw021;", 2, 21);
        behind("lw018;", 1, 18);
        behind("lw018;", 2, 19);
        behind("ls522;ln522;", 1, 23, 23);
        behind("ln522;ls522;", 1, 22, 23);
        behind("ln522;ls522;", 2, 23, 23);
        behind("lk000;lf901;lf901;", 1, 1, 1, 1);
        behind("lk000;lf901;lf901;lf901;", 1, 0, 1, 1, 1);
        behind("lk001;lf901;lf901;lk000;", 1, 2, 1, 1, 1);
        behind("lk000;lk001;lf901;lf901;", 1, 0, 2, 1, 1);
        behind("ls022;ls022;ls022;ls022;", 5, 23, 23, 23, 22);
        behind("lk000;p02;", 2, 0);
        behind("lk000;p02;", 3, 1);
        CHECKS.about("promise 12");
        TilesGoAbout x = told("lk000;lk006;s00;p05;p13;");
        due("nights(2)", x.nights(2), 1);
        due("PINNED ABOARD", x.little(0, 4), 5);
        due("PINNED", x.little(1, 4), 1);
        due("NIGHT", x.count(1), 2);
        due("nights(60)", x.nights(60), 1);
        due("NIGHT", x.count(1), 62);
    }

    private static void nightsRefused() {
        CHECKS.about("promise 12, refused");
        TilesGoAbout x = told("lk000;" + "n60;".repeat(15));
        refused(x, "nights(0)", () -> x.nights(0), -4);
        refused(x, "nights(TINY)", () -> x.nights(TINY), -4);
        refused(x, "nights(61)", () -> x.nights(61), -6);
        refused(x, "nights(HUGE)", () -> x.nights(HUGE), -6);
        due("nights(60)", x.nights(60), 0);
        refused(x, "nights(40) at NIGHT 960", () -> x.nights(40), -6);
        due("nights(39)", x.nights(39), 0);
        due("NIGHT", x.count(1), 999);
        refused(x, "nights(1) at NIGHT 999", () -> x.nights(1), -6);
        due("a thought beyond NIGHT 999", x.oneThen(0, 1, 0), x.little(0, 3) == 5 ? 4 : 5);
    }

    private static void oneThen() {
        CHECKS.about("promise 13");
        TilesGoAbout x = told("lk000;p04;");
        due("oneThen(0, 0, 1)", x.oneThen(0, 0, 1), 4);
        due("oneThen(0, 3, 1)", x.oneThen(0, 3, 1), 1);
        due("oneThen(0, 4, 0)", x.oneThen(0, 4, 0), 0);
        due("oneThen(0, 5, 0)", x.oneThen(0, 5, 0), 1);
        due("oneThen(0, 60, 0)", x.oneThen(0, 60, 0), 4);
        due("NIGHT", x.count(1), 0);
        due("PINNED now", x.little(0, 4), 4);
        refused(x, "oneThen(-1, -1, 2)", () -> x.oneThen(-1, -1, 2), -1);
        refused(x, "oneThen(0, -1, 2)", () -> x.oneThen(0, -1, 2), -4);
        refused(x, "oneThen(0, 61, 2)", () -> x.oneThen(0, 61, 2), -6);
        refused(x, "oneThen(0, 0, 2)", () -> x.oneThen(0, 0, 2), -2);
        refused(x, "oneThen(0, 0, -1)", () -> x.oneThen(0, 0, -1), -2);
    }

    private static void aboard() {
        CHECKS.about("promise 14");
        TilesGoAbout x = told("ls521;ls522;lk000;");
        due("aboard(0)", x.aboard(0), 0);
        due("aboard(1)", x.aboard(1), 2);
        due("aboard(2)", x.aboard(2), 3);
        due("aboard(60)", x.aboard(60), 3);
        due("ABOARD now", x.count(4), 0);
        refused(x, "aboard(-1)", () -> x.aboard(-1), -4);
        refused(x, "aboard(61)", () -> x.aboard(61), -6);
    }

    private static void comes() {
        CHECKS.about("promise 15");
        TilesGoAbout x = told("lk000;");
        due("comes(0, 0)", x.comes(0, 0), 0);
        due("comes(0, 5)", x.comes(0, 5), 5);
        due("comes(0, 6)", x.comes(0, 6), -9);
        refused(x, "comes(1, 0)", () -> x.comes(1, 0), -1);
        refused(x, "comes(-1, 0)", () -> x.comes(-1, 0), -1);
        refused(x, "comes(0, 24)", () -> x.comes(0, 24), -1);
        refused(x, "comes(0, -1)", () -> x.comes(0, -1), -1);
        due("comes(0, 5) behind 60", told("n06;lf900;p09;").comes(0, 5), 60);
        due("comes(0, 5) behind 61", told("n05;lf900;p09;").comes(0, 5), -9);
    }

    private static void sails() {
        CHECKS.about("promise 16");
        TilesGoAbout x = told("ls521;ls522;");
        due("sails(0)", x.sails(0), 2);
        due("sails(1)", x.sails(1), 1);
        due("sails(-1)", x.sails(-1), 1);
        due("sails(-2)", x.sails(-2), 2);
        refused(x, "sails(2)", () -> x.sails(2), -1);
        refused(x, "sails(-3)", () -> x.sails(-3), -1);
        due("FIRST of alike", told("lk000;ls522;ls522;").sails(-1), 1);
        due("FIRST of those who never", told("lk000;").sails(-1), -9);
        due("sails of one who never", told("lk000;").sails(0), -9);
        due("ALL ABOARD, one never", told("lk000;ls523;").sails(-2), -9);
        due("ABOARD now", told("lk023;").sails(0), 0);
        due("FIRST of none", new TilesGoAbout().sails(-1), -9);
        due("ALL ABOARD of none", new TilesGoAbout().sails(-2), 0);
        due("behind 60", told("n06;lf900;p09;s05;").sails(0), 60);
        due("ALL ABOARD behind 60", told("n06;lf900;p09;s05;").sails(-2), 60);
        due("FIRST behind 60", told("n06;lf900;p09;s05;").sails(-1), 0);
        due("behind 61", told("n05;lf900;p09;s05;").sails(0), -9);
        due("ALL ABOARD behind 61", told("n05;lf900;p09;s05;").sails(-2), -9);
        due("FIRST behind 61", told("n05;lf900;p09;s05;").sails(-1), -9);
    }

    private static void meets() {
        CHECKS.about("promise 17");
        TilesGoAbout x = told("lk000;lf902;lk012;lk000;");
        due("meets(0, 1)", x.meets(0, 1), 2);
        due("meets(1, 0)", x.meets(1, 0), 2);
        due("meets(0, 2)", x.meets(0, 2), -9);
        due("meets(0, 3)", x.meets(0, 3), 0);
        refused(x, "meets(0, 0)", () -> x.meets(0, 0), -1);
        refused(x, "meets(4, 0)", () -> x.meets(4, 0), -1);
        refused(x, "meets(0, -1)", () -> x.meets(0, -1), -1);
        due("ABOARD", told("lk000;ls001;s00;").meets(0, 1), 1);
        due("who pass one another", told("lk001;ls002;s00;").meets(0, 1), -9);
        due("behind 60", told("n06;lf900;p09;ln005;s05;").meets(0, 1), 60);
        due("behind 61", told("n05;lf900;p09;ln005;s05;").meets(0, 1), -9);
    }

    private static void still() {
        CHECKS.about("promise 18");
        due("of nobody", new TilesGoAbout().still(), 0);
        due("of a SKATER", told("lk000;").still(), -9);
        due("of a SAILOR", told("ls521;").still(), 2);
        due("of a PINNED SAILOR", told("ls521;p09;").still(), 11);
        due("11 NIGHTS between", told("lf900;").still(), -9);
        due("12 quiet NIGHTS ahead", told("n03;lf900;p09;").still(), 0);
        due("just 12 quiet NIGHTS ahead", told("n09;lf900;p09;").still(), 0);
        due("but 11 quiet NIGHTS ahead", told("n10;lf900;p09;").still(), -9);
        due("behind 60", told("n06;lf900;p09;s05;ls018;").still(), 60);
        due("behind 61", told("n05;lf900;p09;s05;ls018;").still(), -9);
    }

    private static void far() {
        CHECKS.about("promise 19");
        TilesGoAbout x = told("c01;");
        due("far(0, 23)", x.far(0, 23), 8);
        due("far(0, 2)", x.far(0, 2), 4);
        due("far(0, 1)", x.far(0, 1), -9);
        due("far(1, 0)", x.far(1, 0), 1);
        due("far(1, 1)", x.far(1, 1), 0);
        x.cracks(6);
        due("far(0, 23)", x.far(0, 23), -9);
        due("far(23, 0)", x.far(23, 0), -9);
        due("far(1, 6)", x.far(1, 6), -9);
        due("far(1, 7)", x.far(1, 7), 1);
        refused(x, "far(24, 0)", () -> x.far(24, 0), -1);
        refused(x, "far(0, 24)", () -> x.far(0, 24), -1);
        refused(x, "far(-1, 0)", () -> x.far(-1, 0), -1);
        refused(x, "far(0, -1)", () -> x.far(0, -1), -1);
        due("not from row to row by columns", told("c11;c10;c09;c08;c07;c06;").far(5, 12), -9);
    }

    private static void cutOff() {
        CHECKS.about("promise 20");
        due("of nobody", new TilesGoAbout().cutOff(), 0);
        due("cutOff()", told("lk000;lk002;c01;c06;").cutOff(), 1);
        due("where a CRACKED TILE is left", told("lk001;c01;").cutOff(), 0);
        due("from a CRACKED SHIP", told("lk000;lk023;c23;").cutOff(), 1);
    }

    private static void shipBest() {
        CHECKS.about("promise 21");
        TilesGoAbout x = told("lk001;lk003;");
        due("shipBest(2, 0)", x.shipBest(2, 0), 3);
        due("shipBest(2, 1)", x.shipBest(2, 1), 2);
        due("shipBest(1, 0)", x.shipBest(1, 0), 1);
        due("shipBest(1, 1)", x.shipBest(1, 1), 1);
        due("shipBest(20, 1)", x.shipBest(20, 1), 2);
        due("THE SHIP", x.count(3), 23);
        due("of nobody", new TilesGoAbout().shipBest(3, 0), 0);
        refused(x, "shipBest(-1, 2)", () -> x.shipBest(-1, 2), -4);
        refused(x, "shipBest(21, 2)", () -> x.shipBest(21, 2), -6);
        refused(x, "shipBest(0, 2)", () -> x.shipBest(0, 2), -2);
        refused(x, "shipBest(0, -1)", () -> x.shipBest(0, -1), -2);
        TilesGoAbout y = told("lk001;lk003;c03;");
        due("on a CRACKED TILE, too", y.shipBest(0, 0), 1);
        y.stands(0, 3);
        due("on a CRACKED TILE, too", y.shipBest(0, 0), 3);
    }

    private static void mend() {
        CHECKS.about("promise 22");
        TilesGoAbout x = told("ls521;c22;c00;");
        due("mend(1, 0)", x.mend(1, 0), -9);
        due("mend(2, 0)", x.mend(2, 0), 22);
        due("mend(20, 1), none ABOARD", x.mend(20, 1), -9);
        due("CRACKED", cracked(x), 1 << 22 | 1);
        due("of several the least", told("ls521;c22;ls511;c17;").mend(2, 0), 17);
        due("most", told("ls521;ls521;c22;ls511;c17;").mend(2, 0), 22);
        due("no more than as it is", told("ls521;c00;").mend(2, 0), -9);
        due("none CRACKED", told("ls521;").mend(2, 0), -9);
        due("TILE 0", told("ls000;c00;s05;").mend(5, 0), 0);
        due("TILE 0", told("ls000;s05;").mend(5, 1), 0);
        due("TILE 23", told("ls522;c23;").mend(1, 0), 23);
        TilesGoAbout y = told("ls521;");
        due("mend(0, 1)", y.mend(0, 1), -9);
        due("mend(2, 1)", y.mend(2, 1), 21);
        due("fewest", told("ls521;ls516;ls516;").mend(3, 1), 22);
        due("CRACKED ones are not SPOILT", told("ls517;c17;lk023;").mend(2, 1), -9);
        refused(y, "mend(-1, 2)", () -> y.mend(-1, 2), -4);
        refused(y, "mend(21, 2)", () -> y.mend(21, 2), -6);
        refused(y, "mend(0, 2)", () -> y.mend(0, 2), -2);
        refused(y, "mend(0, -1)", () -> y.mend(0, -1), -2);
    }

    private static void pin() {
        CHECKS.about("promise 23");
        due("of several the least", told("lk000;ls521;ls522;").pin(2), 1);
        due("who alone comes", told("lk000;ls520;ls522;").pin(2), 2);
        due("none ABOARD", told("ls521;").pin(0), -9);
        due("HOME is THE SHIP", told("ls523;").pin(5), -9);
        due("sent HOME", told("lk000;a023;").pin(0), 0);
        due("NOBODY waits for him", told("ln521;ls522;").pin(3), 1);
        due("of nobody", new TilesGoAbout().pin(5), -9);
        TilesGoAbout x = told("ls000;");
        due("pin(7)", x.pin(7), -9);
        due("pin(8)", x.pin(8), 0);
        due("pin(16)", x.pin(16), 0);
        due("pin(17), no longer PINNED", x.pin(17), -9);
        due("pin(20)", x.pin(20), -9);
        due("PINNED now", x.little(0, 4), 0);
        refused(x, "pin(-1)", () -> x.pin(-1), -4);
        refused(x, "pin(21)", () -> x.pin(21), -6);
    }

    private static void fewest() {
        CHECKS.about("promise 24");
        TilesGoAbout x = told("ls522;ls521;");
        due("fewest(0)", x.fewest(0), 0);
        due("fewest(1)", x.fewest(1), 1);
        due("fewest(2)", x.fewest(2), 3);
        due("fewest(9)", x.fewest(9), 3);
        refused(x, "fewest(-1)", () -> x.fewest(-1), -4);
        refused(x, "fewest(10)", () -> x.fewest(10), -6);
        due("HOME is THE SHIP", told("ls523;").fewest(0), -9);
        due("sent HOME", told("ls000;a023;").fewest(0), 1);
        due("8 NIGHTS away", told("ls000;").fewest(7), 0);
        due("8 NIGHTS away", told("ls000;").fewest(8), 1);
        due("NOBODY waits", told("ls522;ln522;").fewest(2), 1);
        due("NOBODY waits", told("ln522;ls522;").fewest(2), 2);
        // Whoever is sent HOME to TILE 1 fills it, and so keeps the SAILOR on TILE 0 from THE SHIP.
        due("of several the least", told("s02;lf901;ls000;lf901;lf901;a020;").fewest(5), 1);
        due("of several the least", told("s02;ls000;lf901;lf901;lf901;a320;").fewest(5), 1);
        due("of nobody", new TilesGoAbout().fewest(9), 0);
    }

    private static void bestKind() {
        CHECKS.about("promise 25");
        TilesGoAbout x = told("lf000;s05;");
        due("bestKind(0, 0)", x.bestKind(0, 0), 0);
        due("bestKind(0, 1)", x.bestKind(0, 1), 5);
        due("KIND now", x.little(0, 0), 2);
        due("of several the least", told("ln000;").bestKind(0, 0), 1);
        due("when", told("ln000;").bestKind(0, 1), 8);
        due("SAILOR alone", told("lk000;lk000;s06;a006;lk008;").bestKind(2, 0), 3);
        due("never", told("lk000;c00;").bestKind(0, 0), 0);
        due("never", told("lk000;c00;").bestKind(0, 1), -9);
        due("ABOARD now", told("ls023;").bestKind(0, 0), 0);
        due("ABOARD now", told("ls023;").bestKind(0, 1), 0);
        refused(x, "bestKind(1, 2)", () -> x.bestKind(1, 2), -1);
        refused(x, "bestKind(0, 2)", () -> x.bestKind(0, 2), -2);
        refused(x, "bestKind(0, -1)", () -> x.bestKind(0, -1), -2);
    }

    private static void crowd() {
        CHECKS.about("promise 26");
        TilesGoAbout x = told("lk000;lk001;lk001;c01;p03;a203;");
        due("crowd(0)", x.crowd(0), 0);
        due("crowd(1)", x.crowd(1), 1);
        due("crowd(2)", x.crowd(2), 2);
        due("crowd(3)", x.crowd(3), 2);
        due("crowd(4)", x.crowd(4), 1);
        due("crowd(5)", x.crowd(5), 1);
        due("crowd(6)", x.crowd(6), 0xffffff - 1 - 2 - 8);
        TilesGoAbout y = told("lk009;lk002;lk009;lk008;lk015;lk011;lk012;");
        due("crowd(0)", y.crowd(0), 9);
        due("crowd(1)", y.crowd(1), 2);
        due("crowd(5)", y.crowd(5), 5);
        due("beside", told("lk000;lk001;lk007;").crowd(5), 2);
        due("beside on one TILE", told("lk000;lk000;").crowd(5), 0);
        due("most on TILE 1", told("lk001;lk005;lk001;").crowd(0), 1);
        due("most on TILE 23", told("lk001;lk023;lk023;").crowd(0), 23);
        due("LOST, the first", told("lk001;lk002;c01;").crowd(3), 1);
        due("LOST by HOMES, not TILES", told("lk001;a002;c02;").crowd(3), 0);
        TilesGoAbout z = new TilesGoAbout();
        for (int what = 0; what < 7; what++) {
            due("crowd(" + what + ") of nobody", z.crowd(what), what == 6 ? 0xffffff : 0);
        }
        refused(x, "crowd(-1)", () -> x.crowd(-1), -2);
        refused(x, "crowd(7)", () -> x.crowd(7), -2);
    }

    private static void farthest() {
        CHECKS.about("promise 27");
        TilesGoAbout x = told("lk000;lk001;lk005;a018;a110;a222;");
        due("farthest(0)", x.farthest(0), 1);
        due("farthest(1)", x.farthest(1), 4);
        x.stands(2, 18);
        due("farthest(0)", x.farthest(0), 2);
        due("farthest(1)", x.farthest(1), 8);
        due("all HOME", told("lk005;lk006;").farthest(0), 0);
        due("all HOME", told("lk005;lk006;").farthest(1), 0);
        due("of nobody", new TilesGoAbout().farthest(0), -9);
        due("of nobody", new TilesGoAbout().farthest(1), -9);
        refused(x, "farthest(-1)", () -> x.farthest(-1), -2);
        refused(x, "farthest(2)", () -> x.farthest(2), -2);
        TilesGoAbout y = new TilesGoAbout();
        refused(y, "farthest(2) of nobody", () -> y.farthest(2), -2);
    }

    private static void order() {
        CHECKS.about("promise 28");
        TilesGoAbout x = told("lk000;lk022;lk017;lk023;");
        due("order(0)", x.order(0), 1);
        due("order(1)", x.order(1), 2);
        due("order(2)", x.order(2), 0);
        due("order(3)", x.order(3), -9);
        due("order(HUGE)", x.order(HUGE), -9);
        due("of nobody", new TilesGoAbout().order(0), -9);
        TilesGoAbout y = told("lk022;lk022;lk021;");
        due("order(0)", y.order(0), 0);
        due("order(1)", y.order(1), 1);
        due("order(2)", y.order(2), 2);
        refused(x, "order(-1)", () -> x.order(-1), -4);
    }

    private static void two() {
        CHECKS.about("promise 29");
        TilesGoAbout x = told("ls522;ls522;lk000;");
        due("two(0, 1, 0)", x.two(0, 1, 0), 0);
        due("two(0, 1, 1)", x.two(0, 1, 1), 11);
        due("two(0, 2, 9)", x.two(0, 2, 9), 10);
        due("two(2, 0, 9)", x.two(2, 0, 9), 1);
        due("PINNED now", x.little(0, 4), 0);
        TilesGoAbout y = told("ls023;ls023;ls022;ls022;");
        due("two(2, 3, 1)", y.two(2, 3, 1), 10);
        due("two(3, 2, 1)", y.two(3, 2, 1), 1);
        due("PINNED where he is", told("ls000;ls000;a023;").two(0, 1, 3), 0);
        due("2 for each other of all", told("ln022;ls000;ls022;").two(1, 2, 9), 11);
        refused(x, "two(0, 0, -1)", () -> x.two(0, 0, -1), -1);
        refused(x, "two(0, 3, -1)", () -> x.two(0, 3, -1), -1);
        refused(x, "two(-1, 0, 10)", () -> x.two(-1, 0, 10), -1);
        refused(x, "two(0, 1, -1)", () -> x.two(0, 1, -1), -4);
        refused(x, "two(0, 1, 10)", () -> x.two(0, 1, 10), -6);
    }

    private static void likely(String chimney, int n, int t, long above, long below) {
        TilesGoAbout x = told(chimney);
        int before = cracked(x);
        due("coals(0, " + n + ", " + t + ", 0) of " + chimney, x.coals(0, n, t, 0), above);
        due("coals(0, " + n + ", " + t + ", 1) of " + chimney, x.coals(0, n, t, 1), below);
        due("CRACKED", cracked(x), before);
    }

    private static void coals() {
        CHECKS.about("promise 30");
        likely("ls521;", 0, 2, 0, 1);
        likely("ls521;", 1, 2, 0, 1);
        likely("ls521;", 2, 2, 1, 2);
        likely("ls521;", 2, 20, 19, 20);
        likely("ls521;", 3, 2, 3, 4);
        likely("ls517;", 7, 3, 2186, 2187);
        likely("ls517;", 7, 20, 1279999999, 1280000000);
        likely("ls517;c23;", 7, 3, 0, 1);
        likely("ls523;", 0, 2, 1, 1);
        likely("ls523;", 7, 20, 1, 1);
        likely("lk022;", 2, 2, 3, 4);
        likely("lk004;s05;c05;", 7, 2, 0, 1);
        TilesGoAbout x = told("ls521;");
        refused(x, "coals(1, -1, 1, 2)", () -> x.coals(1, -1, 1, 2), LONG + 1);
        refused(x, "coals(0, -1, 21, 2)", () -> x.coals(0, -1, 21, 2), LONG + 4);
        refused(x, "coals(0, 8, 1, 2)", () -> x.coals(0, 8, 1, 2), LONG + 4);
        refused(x, "coals(0, 8, 2, 2)", () -> x.coals(0, 8, 2, 2), LONG + 6);
        refused(x, "coals(0, 7, 21, 2)", () -> x.coals(0, 7, 21, 2), LONG + 6);
        refused(x, "coals(0, 7, 20, 2)", () -> x.coals(0, 7, 20, 2), LONG + 2);
        refused(x, "coals(0, 7, 20, -1)", () -> x.coals(0, 7, 20, -1), LONG + 2);
    }

    private static void mean() {
        CHECKS.about("promise 31");
        TilesGoAbout x = told("lk000;lk000;lk000;a002;a102;a201;");
        due("mean(0)", x.mean(0), 5);
        due("mean(1)", x.mean(1), 3);
        x.stands(2, 8);
        x.stands(0, 3);
        due("mean(0) of 8 by 3", x.mean(0), 8);
        x.stands(0, 4);
        due("mean(0) of 9 by 3", x.mean(0), 3);
        due("mean(1) of 9 by 3", x.mean(1), 1);
        due("all HOME", told("lk000;lk000;").mean(0), 0);
        due("all HOME", told("lk000;lk000;").mean(1), 1);
        due("of nobody", new TilesGoAbout().mean(0), 0);
        due("of nobody", new TilesGoAbout().mean(1), 1);
        refused(x, "mean(-1)", () -> x.mean(-1), LONG + 2);
        refused(x, "mean(2)", () -> x.mean(2), LONG + 2);
    }

    private static TilesGoAbout rowed(String chimney, int... row) {
        TilesGoAbout x = told(chimney);
        for (int v : row) {
            x.row(v);
        }
        return x;
    }

    private static void whatIs() {
        CHECKS.about("promise 32");
        TilesGoAbout x = rowed("lk000;s05;", 0, 1, 2);
        due("whatIs(0, 0)", x.whatIs(0, 0), 1 + 8 + 32);
        due("whatIs(0, 1)", x.whatIs(0, 1), 1023);
        due("the ROW stays", x.count(6), 3);
        due("KIND now", x.little(0, 0), 0);
        due("FISHER", rowed("lf300;", 0, 0, 1).whatIs(0, 1), 1);
        due("FISHER", rowed("lf300;", 0, 0, 0, 0, 0, 1).whatIs(0, 1), 8);
        due("FISHER", rowed("lf300;", 0, 0, 0, 0, 0, 1).whatIs(0, 0), 4);
        due("without a ROW", told("lk000;").whatIs(0, 0), 63);
        due("without a ROW", told("lk000;").whatIs(0, 1), 1023);
        due("where he is now is wrong", rowed("lk000;", 1, 1).whatIs(0, 0), 0);
        due("no such TILE", rowed("lk000;", 99).whatIs(0, 0), 0);
        due("where he is now", rowed("lk000;", 0).whatIs(0, 0), 63);
        refused(x, "whatIs(1, 2)", () -> x.whatIs(1, 2), -1);
        refused(x, "whatIs(0, 2)", () -> x.whatIs(0, 2), -2);
        refused(x, "whatIs(0, -1)", () -> x.whatIs(0, -1), -2);
    }

    private static void row() {
        CHECKS.about("promise 33");
        TilesGoAbout x = new TilesGoAbout();
        refused(x, "row(-1)", () -> x.row(-1), -4);
        refused(x, "row(100)", () -> x.row(100), -6);
        for (int i = 1; i <= 16; i++) {
            due("row(99)", x.row(i == 1 ? 0 : 99), i);
        }
        refused(x, "row(0), the 17th", () -> x.row(0), -6);
        refused(x, "row(-1), the 17th", () -> x.row(-1), -4);
    }

    private static void judge() {
        CHECKS.about("promise 34");
        due("without a ROW", told("lk005;").judge(), -9);
        TilesGoAbout x = rowed("lk005;lk006;a020;", 5, 6);
        due("judge()", x.judge(), -9);
        due("the ROW has none then", x.count(6), 0);
        due("by HOMES, not TILES", rowed("lk005;a020;", 20).judge(), 0);
        due("the second", rowed("lk005;lk006;", 5, 7).judge(), 1);
        due("the first of two", rowed("lk005;lk006;", 4, 7).judge(), 0);
        due("nobody there", rowed("lk005;lk006;", 5, 6, 0).judge(), 2);
        due("a shorter one", rowed("lk005;lk006;", 5).judge(), -9);
        TilesGoAbout y = rowed("lk005;", 4);
        due("judge()", y.judge(), 0);
        due("the ROW has none then", y.count(6), 0);
        due("judge() once more", y.judge(), -9);
    }

    private static void clear() {
        CHECKS.about("promise 35");
        TilesGoAbout x = rowed("lk005;", 4, 5, 6);
        due("clear()", x.clear(), 3);
        due("clear()", x.clear(), 0);
        due("row(5)", x.row(5), 1);
        due("judge()", x.judge(), -9);
    }

    private static void lots() {
        CHECKS.about("promise 36");
        // From seed 0 the draws for one are TILE 11, PINNED 0; TILE 6, PINNED 2; TILE 13, PINNED 2.
        due("SKATER, HOME 11", told("lk011;").lots(1, 0, 1), 1);
        due("SKATER, HOME 11", told("lk011;").lots(2, 0, 1), 1);
        due("SKATER, HOME 10", told("lk010;").lots(1, 0, 1), 0);
        due("SKATER, HOME 10", told("lk010;").lots(2, 0, 1), 1);
        due("SKATER, SHIP 8", told("lk011;s08;").lots(1, 0, 0), 0);
        due("SKATER, SHIP 8", told("lk011;s08;").lots(2, 0, 0), 1);
        due("SAILOR", told("ls000;").lots(20, 0, 0), 20);
        due("without the sign's bit", told("lk010;").lots(2, TINY, 1), 1);
        // From seed 0 the draws for two are TILE 11, PINNED 0 and TILE 6, PINNED 2.
        due("by numbers", told("lk011;lk010;").lots(1, 0, 1), 2);
        due("by numbers", told("lk010;lk011;").lots(1, 0, 1), 0);
        due("of nobody", new TilesGoAbout().lots(20, 5, 0), 0);
        TilesGoAbout x = told("lk011;");
        x.lots(5, 9, 0);
        at(x, 11);
        refused(x, "lots(0, 0, 2)", () -> x.lots(0, 0, 2), -4);
        refused(x, "lots(21, 0, 2)", () -> x.lots(21, 0, 2), -6);
        refused(x, "lots(20, 0, 2)", () -> x.lots(20, 0, 2), -2);
        refused(x, "lots(1, 0, -1)", () -> x.lots(1, 0, -1), -2);
    }

    private static void image() {
        CHECKS.about("promises 37, 38");
        TilesGoAbout x = told("lk000;ls521;c07;s05;n03;p12;");
        refused(x, "on() without an IMAGE", x::on, -3);
        due("image()", x.image(), 3);
        List<Long> then = all(x).subList(0, 6);
        List<Long> ones = all(x).subList(8, all(x).size());
        x.nights(9);
        x.cracks(8);
        x.ship(1);
        x.turn(0, 3, 3);
        x.comesIn(0, 0, 0);
        x.row(5);
        x.letter('c');
        x.letter(-1);
        due("on()", x.on(), 3);
        CHECKS.holds("all but the ROW and letters is as then", then.equals(all(x).subList(0, 6)));
        CHECKS.holds("the LITTLE ONES are as then", ones.equals(all(x).subList(8, all(x).size())));
        due("the ROW is not in it", x.count(6), 1);
        due("letters are not in it", x.count(7), 1);
        due("REFUSALS are not in it", x.count(14), 1);
        x.nights(2);
        due("on() once more", x.on(), 3);
        x.nights(2);
        due("another image()", x.image(), 5);
        x.nights(2);
        due("on()", x.on(), 5);
        due("NIGHT", x.count(1), 5);
        TilesGoAbout y = new TilesGoAbout();
        due("image() of nobody", y.image(), 0);
        y.comesIn(0, 0, 0);
        due("on()", y.on(), 0);
        due("count(0)", y.count(0), 0);
    }

    private static void count() {
        CHECKS.about("promise 39");
        TilesGoAbout x = told("lk000;lk023;ls521;c07;c08;n04;p03;p12;p21;");
        x.row(1);
        x.letter(1);
        x.letter(2);
        due("count(0)", x.count(0), 3);
        due("count(1)", x.count(1), 4);
        due("count(2)", x.count(2), 1 << 7 | 1 << 8);
        due("count(3)", x.count(3), 23);
        due("count(4)", x.count(4), 2);
        due("count(5)", x.count(5), 3);
        due("count(6)", x.count(6), 1);
        due("count(7)", x.count(7), 2);
        for (int what : new int[] {-1, 8, 9, 10, 17, 18, HUGE, TINY}) {
            due("count(" + what + ")", x.count(what), -9);
        }
        x.tile(24, 0);
        x.mean(2);
        x.mean(3);
        x.on();
        x.on();
        x.on();
        x.coals(0, -1, 2, 0);
        x.row(100);
        x.row(100);
        int[] were = {1, 2, 3, 1, 0, 2};
        for (int i = 0; i < 6; i++) {
            due("count(" + (11 + i) + ")", x.count(11 + i), were[i]);
        }
    }
}
