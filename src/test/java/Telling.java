import java.util.ArrayList;
import java.util.List;

/** What the tests tell an object, and all that they can learn of it. */
final class Telling {
    static final String KINDS = "khfswn";
    static final int EVERY_TILE = 0xffffff;
    static final int HUGE = Integer.MAX_VALUE;
    static final int TINY = Integer.MIN_VALUE;

    private Telling() {
    }

    static void spell(TilesGoAbout x, String text) {
        for (int i = 0; i < text.length(); i++) {
            x.letter(text.charAt(i));
        }
    }

    /** What the letters answer as a CHIMNEY. */
    static int chimney(TilesGoAbout x, String text) {
        spell(x, text);
        return x.chimney();
    }

    /** STATEMENTS as a CHIMNEY has them, but each told by its own call, so that these tests don't lean on chimney(). */
    static TilesGoAbout made(String statements) {
        TilesGoAbout x = new TilesGoAbout();
        tell(x, statements);
        return x;
    }

    static void tell(TilesGoAbout x, String statements) {
        for (String told : statements.split(";")) {
            if (!told.isEmpty() && !tellOne(x, told)) {
                throw new IllegalStateException("a test's own statement: " + told);
            }
        }
    }

    private static boolean tellOne(TilesGoAbout x, String told) {
        String rest = told.substring(1);
        switch (told.charAt(0)) {
            case 'l': return x.comesIn(KINDS.indexOf(rest.charAt(0)), rest.charAt(1) - '0', Integer.parseInt(rest.substring(2))) >= 0;
            case 'a': return x.stands(rest.charAt(0) - '0', Integer.parseInt(rest.substring(1))) >= 0;
            case 'c': return x.cracks(Integer.parseInt(rest)) >= 0;
            case 's': return x.ship(Integer.parseInt(rest)) >= 0;
            case 'p': return x.pins(rest.charAt(0) - '0', rest.charAt(1) - '0') >= 0;
            case 'n': return x.nights(Integer.parseInt(rest)) >= 0;
            default: return false;
        }
    }

    /** An object at NIGHT n without anybody. */
    static TilesGoAbout atNight(int n) {
        TilesGoAbout x = new TilesGoAbout();
        int left = n;
        while (left > 0) {
            left -= 60;
            x.nights(left < 0 ? left + 60 : 60);
        }
        return x;
    }

    static void row(TilesGoAbout x, int... numbers) {
        for (int v : numbers) {
            x.row(v);
        }
    }

    /** All that there is now, but what the ROW, letters and THE IMAGE hold, and the REFUSALS. */
    static List<Integer> now(TilesGoAbout x) {
        List<Integer> all = new ArrayList<>();
        for (int what = 0; what <= 7; what++) {
            all.add(x.count(what));
        }
        int many = x.count(0);
        for (int one = 0; one < many; one++) {
            for (int what = 0; what <= 5; what++) {
                all.add(x.little(one, what));
            }
        }
        return all;
    }

    /**
     * All that an object holds but the REFUSALS, what is in its ROW, letters and IMAGE too: these can
     * only be used up to be looked at, and so the object is not to be asked further.
     */
    static List<Integer> everything(TilesGoAbout x) {
        List<Integer> all = now(x);
        all.add(x.judge());
        all.add(x.chimney());
        all.addAll(now(x));
        all.add(x.on());
        all.addAll(now(x));
        return all;
    }

    static int[] tiles(TilesGoAbout x) {
        int[] tiles = new int[x.count(0)];
        for (int one = 0; one < tiles.length; one++) {
            tiles[one] = x.little(one, 3);
        }
        return tiles;
    }

    /** How many REFUSALS there were of -1 .. -6, by the number without its sign. */
    static int[] refusals(TilesGoAbout x) {
        int[] were = new int[7];
        for (int i = 1; i <= 6; i++) {
            were[i] = x.count(10 + i);
        }
        return were;
    }
}
