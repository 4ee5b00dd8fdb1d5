/** Promises 28 to 30: the image, on from it, and what is counted. */
final class ImageTest {
    public static void main(String[] args) throws Exception {
        Cases.run(ImageTest.class);
    }

    static void p29_noImage() {
        GlassJar x = new GlassJar();
        Due.men(x, "s1,1");
        Due.due("on() without an image", x.on(), -3);
        Due.due("on() without an image", x.on(), -3);
        Due.refused(x, 0, 0, 2, 0, 0);
        Due.due("the man stays", x.count(0), 1);
    }

    static void p29_allIsAsThen() {
        GlassJar x = new GlassJar();
        x.jar(0, 8, 30, 5, 4);
        x.jar(1, 9, 60, 9, 2);
        x.pour(1, false);
        Due.men(x, "s1,11", "a2,22");
        x.cut(77);
        for (int law = 0; law < 5; law++) {
            x.law(law, 50 + law);
        }
        x.least(2);
        int[] before = numbersOf(x);
        Due.due("image()", x.image(), 2);
        changeAll(x);
        Due.due("on()", x.on(), 2);
        int[] after = numbersOf(x);
        for (int i = 0; i < before.length; i++) {
            Due.due("number and day " + i + " as then", after[i], before[i]);
        }
        Due.due("manOf(0, 0)", x.manOf(0, 0), 0);
        Due.due("manOf(0, 1)", x.manOf(0, 1), 1);
        Due.due("manOf(1, 2)", x.manOf(1, 2), 22);
        Due.due("manOf(2, 0)", x.manOf(2, 0), -1);
        Due.due("cut as then", x.cut(1), 77);
        for (int law = 0; law < 5; law++) {
            Due.due("law as then " + law, x.law(law, 0), 50 + law);
        }
        Due.due("least as then", x.least(1), 2);
        Due.due("pour 0 as then", x.pour(0, true), 0);
        Due.due("pour 1 as then", x.pour(1, false), 0);
        Due.due("on() again", x.on(), 2);
        Due.due("cut as then again", x.cut(1), 77);
        jarsGoOnAsThen(x);
    }

    /** SEED, SHAKES, SPREAD and DEPTH are back too: a jar turned over twice is as it was then. */
    private static void jarsGoOnAsThen(GlassJar x) {
        GlassJar fresh = new GlassJar();
        fresh.jar(0, 8, 30, 5, 4);
        fresh.pour(0, false);
        x.pour(0, false);
        for (int day = 0; day < 366; day += 5) {
            Due.due("turned over after on, " + day, x.number(0, day), fresh.number(0, day));
        }
    }

    private static void changeAll(GlassJar x) {
        x.jar(0, 4, 300, 50, 40);
        x.jar(1, 5, 600, 90, 20);
        x.pour(0, false);
        x.pour(1, true);
        Due.due("man()", Due.man(x, "l3,33"), 2);
        x.cut(300);
        for (int law = 0; law < 5; law++) {
            x.law(law, 9);
        }
        x.least(9);
    }

    /** Not of all days: an object has no more than 512 calls. */
    private static int[] numbersOf(GlassJar x) {
        int[] numbers = new int[4 * 41];
        for (int i = 0; i < 41; i++) {
            numbers[i] = x.number(0, 9 * i);
            numbers[41 + i] = x.number(1, 9 * i);
            numbers[82 + i] = x.dayOf(0, 9 * i + 1);
            numbers[123 + i] = x.dayOf(1, 9 * i + 1);
        }
        return numbers;
    }

    static void p29_tapeAndRefusalsStay() {
        GlassJar x = new GlassJar();
        x.cut(-1);
        x.feed(3, 0x2C3173);
        Due.due("image()", x.image(), 0);
        x.cut(400);
        x.feed(1, '5');
        Due.due("on()", x.on(), 0);
        Due.due("the tape stays", x.count(3), 4);
        Due.refused(x, 0, 0, 0, 1, 1);
        Due.due("man() of the tape", x.man(), 0);
        Due.due("on() again", x.on(), 0);
        Due.due("no man after on()", x.count(0), 0);
        Due.due("the tape stays empty", x.count(3), 0);
    }

    static void p28_imageTellsHowManyMen() {
        GlassJar x = new GlassJar();
        Due.due("image() of nobody", x.image(), 0);
        Due.men(x, "s1,1", "n2,2");
        Due.man(x, "x3,3");
        Due.due("image() of two men", x.image(), 2);
        Due.due("the men stay", x.count(0), 2);
        Due.due("manOf(1, 2)", x.manOf(1, 2), 2);
        Due.refused(x, 0, 0, 0, 0, 0);
    }

    static void p28_imageIsTakenAgain() {
        GlassJar x = new GlassJar();
        Due.men(x, "s1,1");
        Due.due("image()", x.image(), 1);
        Due.man(x, "n2,2");
        x.cut(10);
        Due.due("image() again", x.image(), 2);
        x.cut(20);
        Due.due("on()", x.on(), 2);
        Due.due("cut of the second image", x.cut(30), 10);
        Due.due("on()", x.on(), 2);
        Due.due("the image itself stays", x.cut(30), 10);
    }

    static void p30_counts() {
        GlassJar x = Due.plain();
        x.pour(1, false);
        x.cut(100);
        Due.men(x, "s0,1", "a300,1", "n0,1", "f0,1", "c0,1", "c300,1", "l1,1", "l0,1", "s1,1");
        // By jar 1 only birthdays from 266 on are called.
        Due.due("count(0)", x.count(0), 9);
        Due.due("count(1)", x.count(1), 6);
        Due.due("count(2)", x.count(2), 3);
        x.feed(5, 0);
        Due.due("count(3)", x.count(3), 5);
        Due.due("count(-1)", x.count(-1), -9);
        Due.due("count(4)", x.count(4), -9);
        Due.due("count(10)", x.count(10), -9);
        Due.due("count(17)", x.count(17), -9);
        Due.due("count(MIN)", x.count(Integer.MIN_VALUE), -9);
        Due.due("count(MAX)", x.count(Integer.MAX_VALUE), -9);
        Due.refused(x, 0, 0, 0, 0, 0);
        x.number(2, 0);
        x.manOf(0, 7);
        x.manOf(0, 7);
        x.on();
        x.on();
        x.on();
        x.cut(-1);
        x.cut(367);
        x.cut(367);
        Due.refused(x, 1, 2, 3, 1, 2);
    }
}
