/** What the tests share: answers compared with the ones that are due, and texts put on the tape. */
final class Due {
    static final long NOBODY = 4000000000000000001L;
    static final long OTHER = 4000000000000000002L;
    static final long STATE = 4000000000000000003L;
    static final long BELOW = 4000000000000000004L;
    static final long ROOM = 4000000000000000006L;

    static final int[] MONTH_STARTS = {0, 31, 60, 91, 121, 152, 182, 213, 244, 274, 305, 335, 366};

    private static int wrong = 0;
    private static int asked = 0;
    private static String test = "";

    private Due() {
    }

    /** The test that goes on from here: its name stands before each answer that is wrong. */
    static void within(String name) {
        test = name + ": ";
    }

    static void due(String call, long got, long want) {
        asked++;
        if (got != want) {
            wrong++;
            System.out.println(test + call + " answered " + got + ", due is " + want);
        }
    }

    /** Ends the program: with exit code 1 if an answer was not the one that is due. */
    static void end(String test) {
        System.out.println(test + ": " + asked + " answers, " + wrong + " wrong");
        System.exit(wrong == 0 ? 0 : 1);
    }

    static void feed(GlassJar x, String text) {
        for (int i = 0; i < text.length(); i++) {
            x.feed(1, text.charAt(i));
        }
    }

    static int man(GlassJar x, String text) {
        feed(x, text);
        return x.man();
    }

    static void men(GlassJar x, String... texts) {
        for (int i = 0; i < texts.length; i++) {
            due("man() of " + texts[i], man(x, texts[i]), i);
        }
    }

    /** Both jars unshaken and drawn from the top: the NUMBER of each DAY is the DAY and 1. */
    static GlassJar plain() {
        GlassJar x = new GlassJar();
        x.jar(0, 1, 0, 0, 1);
        x.jar(1, 1, 0, 0, 1);
        return x;
    }

    static void refused(GlassJar x, int one, int two, int three, int four, int six) {
        due("count(11)", x.count(11), one);
        due("count(12)", x.count(12), two);
        due("count(13)", x.count(13), three);
        due("count(14)", x.count(14), four);
        due("count(15)", x.count(15), 0);
        due("count(16)", x.count(16), six);
    }
}
