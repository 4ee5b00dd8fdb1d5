/** Promises 13 to 17: cut, laws, who is called, who served, wages. */
final class ServiceTest {
    public static void main(String[] args) throws Exception {
        Cases.run(ServiceTest.class);
    }

    static void p13_cuts() {
        GlassJar x = Due.plain();
        Due.due("cut(0)", x.cut(0), 195);
        Due.due("cut(366)", x.cut(366), 0);
        Due.due("cut(-1)", x.cut(-1), -4);
        Due.due("cut(367)", x.cut(367), -6);
        Due.due("cut(10)", x.cut(10), 366);
        Due.refused(x, 0, 0, 0, 1, 1);
        Due.men(x, "s9,1", "s10,1");
        Due.due("called at the cut", x.called(0, 0), 1);
        Due.due("called above the cut", x.called(0, 1), 0);
        x.cut(11);
        Due.due("called by a new cut", x.called(0, 1), 1);
    }

    static void p14_laws() {
        GlassJar x = new GlassJar();
        int[] first = {10, 150, 5, 80, 0};
        int[] greatest = {99, 999, 100, 999, 99};
        for (int law = 0; law < 5; law++) {
            Due.due("law " + law + " below", x.law(law, -1), -4);
            Due.due("law " + law + " above", x.law(law, greatest[law] + 1), -6);
            Due.due("law " + law + " greatest", x.law(law, greatest[law]), first[law]);
            Due.due("law " + law + " least", x.law(law, 0), greatest[law]);
            Due.due("law " + law + " back", x.law(law, first[law]), 0);
        }
        Due.due("law(5, -1)", x.law(5, -1), -1);
        Due.due("law(-1, 5000)", x.law(-1, 5000), -1);
        Due.refused(x, 2, 0, 0, 5, 5);
    }

    static void p15_called() {
        GlassJar x = Due.plain();
        x.pour(1, false);
        Due.men(x, "s194,1", "n195,1", "s171,1", "f172,1");
        int[] byFirst = {1, 0, 1, 1};
        int[] bySecond = {1, 1, 1, 1};
        for (int man = 0; man < 4; man++) {
            Due.due("called(0, " + man + ")", x.called(0, man), byFirst[man]);
            Due.due("called(1, " + man + ")", x.called(1, man), bySecond[man]);
        }
        x.cut(194);
        Due.due("called(1, 2)", x.called(1, 2), 0);
        Due.due("called(1, 3)", x.called(1, 3), 1);
        x.cut(0);
        Due.due("nobody by cut 0", x.called(0, 0) + x.called(1, 1), 0);
        Due.due("called(2, 0)", x.called(2, 0), -1);
        Due.due("called(-1, 0)", x.called(-1, 0), -1);
        Due.due("called(0, 4)", x.called(0, 4), -1);
        Due.due("called(0, -1)", x.called(0, -1), -1);
        Due.refused(x, 4, 0, 0, 0, 0);
    }

    static void p16_served() {
        GlassJar x = Due.plain();
        x.cut(100);
        // Birthday 49 has number 50, 50 has 51, 299 has 300.
        String[] called = {"s49,1", "a49,1", "n49,1", "f49,1", "c49,1", "l49,1", "l50,1"};
        String[] others = {"s299,1", "a299,1", "n299,1", "f299,1", "c299,1", "l299,1"};
        Due.men(x, called);
        int[] dueOfCalled = {1, 1, 0, 3, 2, 1, 0};
        int[] dueOfOthers = {0, 1, 0, 0, 1, 0};
        for (int i = 0; i < called.length; i++) {
            Due.due("served of called " + called[i], x.served(0, i), dueOfCalled[i]);
        }
        for (int i = 0; i < others.length; i++) {
            int man = Due.man(x, others[i]);
            Due.due("served of " + others[i], x.served(0, man), dueOfOthers[i]);
        }
        Due.due("served(2, 0)", x.served(2, 0), -1);
        Due.due("served(-1, 0)", x.served(-1, 0), -1);
        Due.due("served(0, 13)", x.served(0, 13), -1);
        Due.due("served(0, -1)", x.served(0, -1), -1);
        Due.refused(x, 4, 0, 0, 0, 0);
    }

    static void p17_wages() {
        GlassJar x = Due.plain();
        x.cut(100);
        x.law(1, 151);
        x.law(4, 7);
        Due.men(x, "s49,1000", "a49,1000", "n49,1000", "f49,1000", "c49,1000", "l49,1000", "l50,1000");
        int[] called = {842, 842, 993, 1073, 918, 842, 993};
        for (int man = 0; man < 7; man++) {
            Due.due("wage of called " + man, x.wage(0, man, 0), called[man]);
        }
        x.cut(0);
        int[] others = {1000, 849, 1000, 1000, 849, 1000, 1000};
        for (int man = 0; man < 7; man++) {
            Due.due("wage of not called " + man, x.wage(0, man, 0), others[man]);
            Due.due("wage grown of " + man, x.wage(0, man, 40), 1400);
        }
        x.law(0, 99);
        Due.due("wage grown by 99", x.wage(1, 0, 40), 1000 + 99 * 40);
    }

    static void p17_wagesFade() {
        GlassJar x = Due.plain();
        Due.men(x, "s0,0", "c0,0");
        x.law(0, 0);
        x.law(1, 999);
        x.law(2, 3);
        // 999 times 97 by 100 is 969.03; half of 969 is cut to 484.
        Due.due("left after a year", x.wage(0, 0, 1), -969);
        Due.due("half left after a year", x.wage(0, 1, 1), -484);
        Due.due("left after 33 years", x.wage(0, 0, 33), -9);
        Due.due("half left after 33 years", x.wage(0, 1, 33), -4);
        Due.due("left after 34 years", x.wage(0, 0, 34), 0);
        Due.due("left after 40 years", x.wage(0, 0, 40), 0);
        x.law(2, 0);
        Due.due("left if nothing fades", x.wage(0, 0, 40), -999);
        x.law(2, 100);
        Due.due("left at once", x.wage(0, 0, 0), -999);
        Due.due("left if all fades", x.wage(0, 0, 1), 0);
    }

    static void p17_wageRefuses() {
        GlassJar x = Due.plain();
        Due.men(x, "s0,5");
        Due.due("wage(2, 0, -1)", x.wage(2, 0, -1), Due.NOBODY);
        Due.due("wage(-1, 0, 0)", x.wage(-1, 0, 0), Due.NOBODY);
        Due.due("wage(0, 1, 41)", x.wage(0, 1, 41), Due.NOBODY);
        Due.due("wage(0, -1, 0)", x.wage(0, -1, 0), Due.NOBODY);
        Due.due("wage(0, 0, -1)", x.wage(0, 0, -1), Due.BELOW);
        Due.due("wage(0, 0, 41)", x.wage(0, 0, 41), Due.ROOM);
        Due.refused(x, 4, 0, 0, 1, 1);
    }
}
