/** Promises 23 to 27: groups that are shown or hidden, and what another jar or cut would change. */
final class BookTest {
    public static void main(String[] args) throws Exception {
        Cases.run(BookTest.class);
    }

    static void p23_groups() {
        GlassJar x = Due.plain();
        x.cut(31);
        Due.men(x, "n0,100", "s30,201", "n15,100", "n31,7", "n31,7");
        // 100, 51 and 100: 251 by 3.
        Due.due("group above", x.group(0, 0, 0, 0), 251);
        Due.due("group below", x.group(0, 0, 0, 1), 3);
        Due.due("group in 20 above", x.group(0, 0, 20, 0), 1001);
        Due.due("group in 20 below", x.group(0, 0, 20, 1), 3);
        Due.due("group in 40 above", x.group(0, 0, 40, 0), 1601);
        Due.due("hidden above", x.group(0, 1, 0, 0), -9);
        Due.due("hidden below", x.group(0, 1, 0, 1), 1);
        x.least(2);
        Due.due("shown above", x.group(0, 1, 0, 0), 7);
        Due.due("shown below", x.group(0, 1, 0, 1), 1);
        Due.due("empty month", x.group(0, 2, 0, 0), -9);
        x.pour(1, false);
        Due.due("group by jar 1 above", x.group(1, 0, 0, 0), 401);
        Due.due("group by jar 1 below", x.group(1, 0, 0, 1), 3);
        Due.refused(x, 0, 0, 0, 0, 0);
    }

    static void p23_debtors() {
        GlassJar x = Due.plain();
        x.law(1, 999);
        Due.men(x, "s365,0", "s335,0", "s365,3", "s350,0");
        x.cut(366);
        Due.due("negative group above", x.group(0, 11, 0, 0), -3993);
        Due.due("negative group below", x.group(0, 11, 0, 1), 4);
    }

    static void p23_groupRefuses() {
        GlassJar x = new GlassJar();
        Due.due("group(2, 0, 0, 2)", x.group(2, 0, 0, 2), Due.NOBODY);
        Due.due("group(-1, 0, 0, 0)", x.group(-1, 0, 0, 0), Due.NOBODY);
        Due.due("group(0, 12, -1, 0)", x.group(0, 12, -1, 0), Due.NOBODY);
        Due.due("group(0, -1, 0, 0)", x.group(0, -1, 0, 0), Due.NOBODY);
        Due.due("group(0, 0, -1, 2)", x.group(0, 0, -1, 2), Due.OTHER);
        Due.due("group(0, 0, 41, -1)", x.group(0, 0, 41, -1), Due.OTHER);
        Due.due("group(0, 0, -1, 0)", x.group(0, 0, -1, 0), Due.BELOW);
        Due.due("group(0, 0, 41, 1)", x.group(0, 0, 41, 1), Due.ROOM);
        Due.refused(x, 4, 2, 0, 1, 1);
    }

    static void p24_least() {
        GlassJar x = new GlassJar();
        Due.due("least(1)", x.least(1), 3);
        Due.due("least(60)", x.least(60), 1);
        Due.due("least(0)", x.least(0), -4);
        Due.due("least(61)", x.least(61), -6);
        Due.due("least(5)", x.least(5), 60);
        Due.refused(x, 0, 0, 0, 1, 1);
    }

    static void p25_shown() {
        for (int month = 0; month < 12; month++) {
            GlassJar x = new GlassJar();
            x.least(2);
            Due.man(x, "s" + Due.MONTH_STARTS[month] + ",1");
            Due.due("one man of month " + month, x.shown(), 0);
            Due.man(x, "s" + (Due.MONTH_STARTS[month + 1] - 1) + ",1");
            Due.due("two men of month " + month, x.shown(), 1 << month);
        }
        GlassJar x = new GlassJar();
        Due.men(x, "s0,1", "n0,1", "l30,1", "s100,1", "s365,1", "s364,1", "s363,1", "s362,1");
        Due.due("shown by 3", x.shown(), 1 | 1 << 11);
        x.least(4);
        Due.due("shown by 4", x.shown(), 1 << 11);
        x.least(1);
        Due.due("shown by 1", x.shown(), 1 | 1 << 3 | 1 << 11);
    }

    static void p26_moved() {
        GlassJar x = Due.plain();
        Due.due("moved of nobody", x.moved(), 0);
        // By jar 1 turned over the numbers are 366 less the day; the cut is 195.
        Due.men(x, "s0,1", "n365,1", "a183,1", "f171,1", "c170,1", "s194,1", "s195,1");
        Due.due("moved of equal jars", x.moved(), 0);
        x.pour(1, false);
        Due.due("moved", x.moved(), 4);
        x.cut(366);
        Due.due("moved if all are called", x.moved(), 0);
        x.cut(1);
        Due.due("moved by cut 1", x.moved(), 2);
    }

    static void p27_cuts() {
        GlassJar x = Due.plain();
        Due.due("cuts(0, 0) of nobody", x.cuts(0, 0), 0);
        Due.due("cuts(0, 1) of nobody", x.cuts(0, 1), -9);
        Due.men(x, "s300,1", "n9,1", "a9,1", "f49,1", "c365,1");
        int[] due = {0, 10, 10, 50, 301, 366, -9};
        for (int many = 0; many < due.length; many++) {
            Due.due("cuts(0, " + many + ")", x.cuts(0, many), due[many]);
        }
        x.pour(1, false);
        Due.due("cuts(1, 1)", x.cuts(1, 1), 1);
        Due.due("cuts(1, 2)", x.cuts(1, 2), 66);
        Due.due("cuts(0, 60)", x.cuts(0, 60), -9);
        Due.due("cuts(2, -1)", x.cuts(2, -1), -1);
        Due.due("cuts(-1, 0)", x.cuts(-1, 0), -1);
        Due.due("cuts(0, -1)", x.cuts(0, -1), -4);
        Due.due("cuts(0, 61)", x.cuts(0, 61), -6);
        Due.due("the cut stays", x.cut(195), 195);
        Due.refused(x, 2, 0, 0, 1, 1);
    }
}
