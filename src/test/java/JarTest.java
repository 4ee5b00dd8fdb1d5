/** Promises 1 and 4 to 11: a new object, jars and the numbers that come of them. */
final class JarTest {
    public static void main(String[] args) throws Exception {
        Cases.run(JarTest.class);
    }

    static void p01_newObject() {
        GlassJar x = new GlassJar();
        Due.due("new count(0)", x.count(0), 0);
        Due.due("new count(1)", x.count(1), 0);
        Due.due("new count(2)", x.count(2), 0);
        Due.due("new count(3)", x.count(3), 0);
        Due.refused(x, 0, 0, 0, 0, 0);
        Due.due("new cut", x.cut(195), 195);
        int[] laws = {10, 150, 5, 80, 0};
        for (int law = 0; law < laws.length; law++) {
            Due.due("new law " + law, x.law(law, laws[law]), laws[law]);
        }
        Due.due("new least", x.least(3), 3);
        Due.due("new shown", x.shown(), 0);
        Due.due("new pour 0", x.pour(0, true), 0);
        Due.due("new pour 1", x.pour(1, true), 0);
        GlassJar told = new GlassJar();
        told.jar(0, 1, 100, 20, 1);
        for (int day = 0; day < 366; day++) {
            Due.due("new number of " + day + " in jar " + day % 2, x.number(day % 2, day), told.number(0, day));
        }
        Due.due("new number(0, 0)", x.number(0, 0), 4);
        Due.due("new number(0, 365)", x.number(0, 365), 358);
    }

    static void p04_jarIsMade() {
        GlassJar x = new GlassJar();
        Due.due("jar(0, 5, 0, 0, 1)", x.jar(0, 5, 0, 0, 1), 1);
        for (int day = 0; day < 366; day++) {
            Due.due("unshaken number of " + day, x.number(0, day), day + 1);
        }
        Due.due("the other jar stays", x.number(1, 0), 4);
        GlassJar still = new GlassJar();
        Due.due("jar(0, 5, 2000, 0, 1)", still.jar(0, 5, 2000, 0, 1), 1);
        for (int day = 0; day < 366; day++) {
            Due.due("number without spread of " + day, still.number(0, day), day + 1);
        }
        oneShake(1);
        oneShake(77);
        oneShake(-1);
        Due.due("the greatest of all", x.jar(1, Integer.MIN_VALUE, 2000, 365, 366), 1);
        Due.due("jar() leaves POURED", x.pour(0, false), 1);
        x.jar(0, 5, 0, 0, 1);
        Due.due("jar() leaves not POURED", x.number(0, 0), 366);
    }

    /** One shake from a seed changes just the two places that its two lots tell. */
    private static void oneShake(int seed) {
        GlassJar x = new GlassJar();
        x.jar(0, seed, 1, 365, 1);
        long first = after(seed);
        int place = lotOf(first, 366);
        int far = lotOf(after((int) first), 731) - 365;
        int other = Math.max(0, Math.min(365, place + far));
        for (int day = 0; day < 366; day++) {
            int due = day == place ? other + 1 : day == other ? place + 1 : day + 1;
            Due.due("seed " + seed + ", number of " + day, x.number(0, day), due);
        }
    }

    private static long after(int z) {
        return (int) (z * 1664525L + 1013904223L);
    }

    private static int lotOf(long z, int of) {
        long withoutSign = z < 0 ? z + 2147483648L : z;
        return (int) (withoutSign / 256 % of);
    }

    static void p04_jarIsDrawnDeep() {
        drawnBy(0, 9, 3);
        drawnBy(1, 9, 366);
    }

    private static void drawnBy(int jar, int seed, int depth) {
        GlassJar byDay = new GlassJar();
        GlassJar byNumber = new GlassJar();
        byDay.jar(jar, seed, 0, 0, depth);
        byNumber.jar(jar, seed, 0, 0, depth);
        java.util.ArrayList<Integer> fromTop = new java.util.ArrayList<>();
        for (int day = 0; day < 366; day++) {
            fromTop.add(day);
        }
        int z = seed;
        for (int number = 1; number <= 366; number++) {
            z = (int) after(z);
            int day = fromTop.remove(lotOf(z, Math.min(depth, fromTop.size())));
            Due.due("depth " + depth + ", number of " + day, byDay.number(jar, day), number);
            Due.due("depth " + depth + ", day of " + number, byNumber.dayOf(jar, number), day);
        }
    }

    static void p04_jarRefuses() {
        GlassJar x = new GlassJar();
        Due.due("jar(-1, ..)", x.jar(-1, 0, -1, 0, 1), -1);
        Due.due("jar(2, ..)", x.jar(2, 0, 0, 0, 367), -1);
        Due.due("shakes -1", x.jar(0, 0, -1, 0, 1), -4);
        Due.due("spread -1", x.jar(0, 0, 0, -1, 1), -4);
        Due.due("depth 0", x.jar(0, 0, 0, 0, 0), -4);
        Due.due("shakes 2001, depth 0", x.jar(0, 0, 2001, 0, 0), -4);
        Due.due("shakes 2001", x.jar(0, 0, 2001, 0, 1), -6);
        Due.due("spread 366", x.jar(0, 0, 0, 366, 1), -6);
        Due.due("depth 367", x.jar(0, 0, 0, 0, 367), -6);
        Due.refused(x, 2, 0, 0, 4, 3);
        Due.due("a refused jar stays", x.number(0, 0), 4);
    }

    static void p05_pours() {
        GlassJar x = Due.plain();
        Due.due("pour(0, true)", x.pour(0, true), 0);
        Due.due("pour(0, false)", x.pour(0, false), 1);
        Due.due("pour(0, false) again", x.pour(0, false), 0);
        Due.due("number not poured", x.number(0, 0), 366);
        Due.due("dayOf not poured", x.dayOf(0, 1), 365);
        Due.due("jar 1 stays", x.number(1, 0), 1);
        Due.due("pour(0, true)", x.pour(0, true), 1);
        Due.due("number poured", x.number(0, 0), 1);
        Due.due("pour(2, true)", x.pour(2, true), -1);
        Due.due("pour(-1, false)", x.pour(-1, false), -1);
        Due.refused(x, 2, 0, 0, 0, 0);
    }

    static void p05_turnedOverAfterShaking() {
        GlassJar x = new GlassJar();
        x.jar(0, 3, 500, 40, 1);
        GlassJar over = new GlassJar();
        over.jar(1, 3, 500, 40, 1);
        over.pour(1, false);
        for (int day = 0; day < 366; day++) {
            Due.due("not poured " + day, over.number(1, day), 367 - x.number(0, day));
        }
    }

    static void p06_numbers() {
        GlassJar x = new GlassJar();
        Due.due("number(1, 100)", x.number(1, 100), 101);
        Due.due("number(0, -1)", x.number(0, -1), -1);
        Due.due("number(0, 366)", x.number(0, 366), -1);
        Due.due("number(2, 0)", x.number(2, 0), -1);
        Due.due("number(-1, 0)", x.number(-1, 0), -1);
        Due.refused(x, 4, 0, 0, 0, 0);
    }

    static void p07_daysOfNumbers() {
        GlassJar x = new GlassJar();
        x.jar(1, 12, 700, 200, 30);
        GlassJar same = new GlassJar();
        same.jar(1, 12, 700, 200, 30);
        for (int number = 1; number <= 366; number++) {
            Due.due("number of the day of " + number, same.number(1, x.dayOf(1, number)), number);
        }
        Due.due("dayOf(0, 1)", x.dayOf(0, 1), 3);
        Due.due("dayOf(0, 366)", x.dayOf(0, 366), 357);
        Due.due("dayOf(2, 0)", x.dayOf(2, 0), -1);
        Due.due("dayOf(-1, 400)", x.dayOf(-1, 400), -1);
        Due.due("dayOf(0, 0)", x.dayOf(0, 0), -4);
        Due.due("dayOf(0, 367)", x.dayOf(0, 367), -6);
        Due.refused(x, 2, 0, 0, 1, 1);
    }

    static void p08_means() {
        GlassJar x = Due.plain();
        for (int month = 0; month < 12; month++) {
            int twice = Due.MONTH_STARTS[month] + 1 + Due.MONTH_STARTS[month + 1];
            Due.due("mean above of " + month, x.mean(0, month, 0), twice % 2 == 0 ? twice / 2 : twice);
            Due.due("mean below of " + month, x.mean(0, month, 1), twice % 2 == 0 ? 1 : 2);
        }
        GlassJar fresh = new GlassJar();
        Due.due("mean(0, 11, 0)", fresh.mean(0, 11, 0), 10847);
        Due.due("mean(0, 11, 1)", fresh.mean(0, 11, 1), 31);
        Due.due("mean(2, 0, 2)", x.mean(2, 0, 2), Due.NOBODY);
        Due.due("mean(-1, 0, 0)", x.mean(-1, 0, 0), Due.NOBODY);
        Due.due("mean(0, 12, 0)", x.mean(0, 12, 0), Due.NOBODY);
        Due.due("mean(0, -1, 2)", x.mean(0, -1, 2), Due.NOBODY);
        Due.due("mean(0, 0, 2)", x.mean(0, 0, 2), Due.OTHER);
        Due.due("mean(0, 0, -1)", x.mean(0, 0, -1), Due.OTHER);
        Due.refused(x, 4, 2, 0, 0, 0);
    }

    static void p09_leans() {
        GlassJar x = Due.plain();
        Due.due("lean(0)", x.lean(0), 16342510);
        x.pour(0, false);
        Due.due("lean(0) not poured", x.lean(0), -16342510);
        Due.due("lean(1)", new GlassJar().lean(1), 16307486);
        Due.due("lean(2)", x.lean(2), Due.NOBODY);
        Due.due("lean(-1)", x.lean(-1), Due.NOBODY);
        Due.refused(x, 2, 0, 0, 0, 0);
    }

    static void p10_worst() {
        GlassJar x = Due.plain();
        // January's mean 16 and December's 351 lie equally far from 183.5: the least is told.
        Due.due("worst of equals", x.worst(0), 0);
        x.pour(0, false);
        Due.due("worst of equals, not poured", x.worst(0), 0);
        Due.due("worst(2)", x.worst(2), -1);
        Due.due("worst(-1)", x.worst(-1), -1);
        Due.refused(x, 2, 0, 0, 0, 0);
    }

    static void p10_everyMonthIsWorstOnce() {
        int months = 0;
        for (int seed = 1; seed <= 100; seed++) {
            GlassJar x = new GlassJar();
            x.jar(1, seed, 2000, 365, 366);
            int worst = worstByMeans(x, 1);
            Due.due("worst of seed " + seed, x.worst(1), worst);
            months |= 1 << worst;
        }
        Due.due("the months of these seeds", months, 4095);
    }

    private static int worstByMeans(GlassJar x, int jar) {
        int worst = 0;
        double farthest = -1;
        for (int month = 0; month < 12; month++) {
            double mean = (double) x.mean(jar, month, 0) / x.mean(jar, month, 1);
            if (Math.abs(mean - 183.5) > farthest + 1e-9) {
                farthest = Math.abs(mean - 183.5);
                worst = month;
            }
        }
        return worst;
    }

    static void p11_turned() {
        GlassJar x = Due.plain();
        Due.due("turned(0)", x.turned(0), 0);
        x.pour(0, false);
        Due.due("turned(0) not poured", x.turned(0), 366 * 365 / 2);
        Due.due("turned(0) of a new object", new GlassJar().turned(0), 1109);
        x.jar(1, 7, 2000, 365, 366);
        int pairs = turnedByPairs(x, 1);
        Due.due("turned(1)", x.turned(1), pairs);
        Due.due("turned(1) again", x.turned(1), pairs);
        GlassJar other = new GlassJar();
        other.jar(1, 8, 40, 100, 9);
        Due.due("turned(1) of another", other.turned(1), turnedByPairs(other, 1));
        Due.due("turned(2)", x.turned(2), -1);
        Due.due("turned(-1)", x.turned(-1), -1);
        Due.refused(x, 2, 0, 0, 0, 0);
    }

    private static int turnedByPairs(GlassJar x, int jar) {
        int[] numbers = new int[366];
        int pairs = 0;
        for (int day = 0; day < 366; day++) {
            numbers[day] = x.number(jar, day);
            for (int before = 0; before < day; before++) {
                pairs += numbers[before] > numbers[day] ? 1 : 0;
            }
        }
        return pairs;
    }
}
