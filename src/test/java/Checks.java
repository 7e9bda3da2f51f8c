/** Counts answers that are not as due, and prints them. */
final class Checks {
    private int made = 0;
    private int wrong = 0;
    private String about = "";

    /** What the checks from here on are about. */
    void about(String text) {
        about = text;
    }

    /** A test of its own: it bears a name, and looks at one answer at least. */
    void test(String name, Runnable body) {
        about(name);
        int before = made;
        body.run();
        if (made == before) {
            wrong++;
            System.out.println(name + ": looked at nothing");
        }
    }

    void due(String call, long got, long want) {
        made++;
        if (got != want) {
            wrong++;
            System.out.println(about + ": " + call + " answered " + got + ", due is " + want);
        }
    }

    void holds(String what, boolean so) {
        made++;
        if (!so) {
            wrong++;
            System.out.println(about + ": " + what);
        }
    }

    /** Ends the program: with 1 if an answer was not as due, or none was looked at. */
    void end() {
        System.out.println(made + " answers looked at, " + wrong + " not as due");
        System.exit(wrong == 0 && made > 0 ? 0 : 1);
    }
}
