/** Promises 18 to 22: what a low number does, whom it sends, what serving does, when it fades. */
final class EffectTest {
    public static void main(String[] args) throws Exception {
        Cases.run(EffectTest.class);
    }

    /** Called are 0 to 2 (numbers 1, 2, 3), not called 3 and 4 (numbers 301 and 302). */
    private static GlassJar fiveMen() {
        GlassJar x = Due.plain();
        Due.men(x, "s0,100", "s1,200", "n2,400", "a300,900", "s301,500");
        return x;
    }

    static void p18_does() {
        GlassJar x = fiveMen();
        // Called earn -50, 50, 400; the others 750 and 500: 400 by 3 less 625.
        Due.due("does above", x.does(0, 0, 0), -1475);
        Due.due("does below", x.does(0, 0, 1), 3);
        // After 20 years nothing of the loss is left: 700 by 3 less 700.
        Due.due("does above in 20", x.does(0, 20, 0), -1400);
        Due.due("does below in 20", x.does(0, 20, 1), 3);
        x.law(4, 99);
        Due.due("does with low above", x.does(0, 20, 0), -1697);
        x.cut(301);
        Due.due("does of four above", x.does(0, 20, 0), -199);
        Due.due("does of four below", x.does(0, 20, 1), 1);
        x.cut(302);
        Due.due("does of all", x.does(0, 0, 0), Due.STATE);
        x.cut(0);
        Due.due("does of nobody", x.does(1, 0, 1), Due.STATE);
        Due.refused(x, 0, 0, 2, 0, 0);
    }

    static void p18_doesNothing() {
        GlassJar x = Due.plain();
        Due.men(x, "n0,5", "n300,5", "n301,5", "n302,5");
        Due.due("does nothing above", x.does(0, 3, 0), 0);
        Due.due("does nothing below", x.does(0, 3, 1), 1);
    }

    static void p19_share() {
        GlassJar x = fiveMen();
        // Two of three called men served, one of two others.
        Due.due("share above", x.share(0, 0), 1);
        Due.due("share below", x.share(0, 1), 6);
        x.cut(0);
        Due.due("share, nobody called", x.share(0, 0), Due.STATE);
        x.cut(366);
        Due.due("share, all called", x.share(0, 1), Due.STATE);
        GlassJar kinds = Due.plain();
        // Of called men FLED does not serve, SAFE does; of others CHOSEN does.
        Due.men(kinds, "f0,1", "c1,1", "l2,1", "c300,1", "n300,1", "s300,1", "s300,1");
        Due.due("share of kinds above", kinds.share(0, 0), 1);
        Due.due("share of kinds below", kinds.share(0, 1), 12);
        Due.refused(x, 0, 0, 2, 0, 0);
    }

    static void p20_serving() {
        GlassJar x = fiveMen();
        // -1475 by 3, by 1 by 6.
        Due.due("serving above", x.serving(0, 0, 0), -2950);
        Due.due("serving below", x.serving(0, 0, 1), 1);
        x.cut(366);
        Due.due("serving of all", x.serving(0, 0, 0), Due.STATE);
        GlassJar equal = Due.plain();
        Due.men(equal, "n0,1", "n300,5");
        Due.due("share 0", equal.share(0, 0), 0);
        Due.due("serving by share 0", equal.serving(0, 0, 0), Due.STATE);
        Due.refused(equal, 0, 0, 1, 0, 0);
        // A man who FLED has school more: 1085 by 4 less than the others', by 1 by 4.
        GlassJar mixed = Due.plain();
        Due.men(mixed, "s0,250", "f1,5", "n2,100", "n3,1000", "n300,1");
        Due.due("mixed does above", mixed.does(0, 0, 0), 1281);
        Due.due("mixed does below", mixed.does(0, 0, 1), 4);
        Due.due("mixed serving above", mixed.serving(0, 0, 0), 1281);
        Due.due("mixed serving below", mixed.serving(0, 0, 1), 1);
    }

    static void p20_servingByNegativeShare() {
        GlassJar x = Due.plain();
        x.law(1, 0);
        Due.men(x, "n0,10", "a300,4", "a301,5", "n302,5");
        // Does: 10 less 14 by 3 is 16 by 3; share: 0 less 2 by 3.
        Due.due("does above", x.does(0, 0, 0), 16);
        Due.due("share above", x.share(0, 0), -2);
        Due.due("share below", x.share(0, 1), 3);
        Due.due("serving above", x.serving(0, 0, 0), -8);
        Due.due("serving below", x.serving(0, 0, 1), 1);
        GlassJar odd = Due.plain();
        odd.law(1, 0);
        Due.men(odd, "n0,10", "a300,4", "a301,5", "a302,3", "n303,1");
        // Does: 10 less 13 by 4 is 27 by 4; share: -3 by 4.
        Due.due("odd serving above", odd.serving(0, 0, 0), -9);
        odd.law(4, 1);
        Due.due("odd serving with low above", odd.serving(0, 0, 0), -23);
        Due.due("odd serving with low below", odd.serving(0, 0, 1), 3);
    }

    static void p21_truly() {
        GlassJar x = Due.plain();
        Due.due("truly of nobody", x.truly(0, 0, 0), Due.STATE);
        Due.men(x, "a0,1", "n0,1", "f0,1", "c0,1", "l0,1");
        Due.due("truly of the wrong kinds", x.truly(0, 0, 1), Due.STATE);
        Due.man(x, "l1,1");
        Due.due("truly of a LUCKY man above", x.truly(0, 0, 0), -150);
        Due.due("truly of a LUCKY man below", x.truly(0, 0, 1), 1);
        x.pour(1, false);
        // Not poured the first LUCKY man has 366 and the second 365.
        Due.due("truly by jar 1", x.truly(1, 0, 0), -150);
        Due.man(x, "s300,9");
        x.law(4, 20);
        Due.due("truly with low", x.truly(0, 0, 0), -170);
        Due.due("truly in 7", x.truly(0, 7, 0), -117);
        Due.due("truly in 40", x.truly(0, 40, 0), -20);
        x.cut(0);
        Due.due("truly needs no cut", x.truly(0, 0, 0), -170);
        Due.refused(x, 0, 0, 2, 0, 0);
    }

    static void p21_trulyOfOddLucky() {
        GlassJar x = Due.plain();
        Due.men(x, "l0,1");
        x.pour(1, false);
        Due.due("truly by an odd number", x.truly(0, 0, 0), Due.STATE);
        Due.due("truly by an even number", x.truly(1, 0, 0), -150);
        Due.man(x, "s5,1");
        Due.due("truly of a SENT man", x.truly(0, 0, 0), -150);
    }

    static void p22_faded() {
        GlassJar x = Due.plain();
        Due.due("faded of nobody", x.faded(0, 9999), -9);
        Due.men(x, "s0,100", "s300,100");
        // What is left of the loss in year y is 150 less 7.5 times y, cut.
        Due.due("faded to 150", x.faded(0, 150), 0);
        Due.due("faded to 149", x.faded(0, 149), 1);
        Due.due("faded to 142", x.faded(0, 142), 1);
        Due.due("faded to 141", x.faded(0, 141), 2);
        Due.due("faded to 0", x.faded(0, 0), 20);
        x.law(4, 1);
        Due.due("faded to 0 with low", x.faded(0, 0), -9);
        Due.due("faded to 1 with low", x.faded(0, 1), 20);
        x.law(2, 0);
        Due.due("never faded", x.faded(0, 150), -9);
        x.law(2, 1);
        Due.due("faded in the last year", x.faded(0, 91), 40);
        Due.due("not faded in the last year", x.faded(0, 90), -9);
        x.cut(0);
        Due.due("no DOES", x.faded(0, 9999), -9);
        Due.due("faded(2, -1)", x.faded(2, -1), -1);
        Due.due("faded(-1, 0)", x.faded(-1, 0), -1);
        Due.due("faded(0, -1)", x.faded(0, -1), -4);
        Due.due("faded(0, 10000)", x.faded(0, 10000), -6);
        Due.refused(x, 2, 0, 0, 1, 1);
    }

    static void p22_fadedUpwards() {
        GlassJar x = Due.plain();
        Due.men(x, "n0,100", "n1,101", "a300,50");
        // Called earn 201 by 2, the other 50 less what is left of 150: it starts at 200.5.
        Due.due("faded to 200", x.faded(0, 200), 1);
        Due.due("faded to 201", x.faded(0, 201), 0);
        Due.due("faded to 50", x.faded(0, 50), -9);
        Due.due("faded to 51", x.faded(0, 51), 20);
    }

    static void p18_doesRefuses() {
        GlassJar x = new GlassJar();
        Due.due("does(2, -1, 2)", x.does(2, -1, 2), Due.NOBODY);
        Due.due("does(0, -1, 2)", x.does(0, -1, 2), Due.OTHER);
        Due.due("does(0, -1, 0)", x.does(0, -1, 0), Due.BELOW);
        Due.due("does(0, 41, 0)", x.does(0, 41, 0), Due.ROOM);
        Due.due("does(0, 40, 0)", x.does(0, 40, 0), Due.STATE);
        Due.refused(x, 1, 1, 1, 1, 1);
    }

    static void p19_shareRefuses() {
        GlassJar x = new GlassJar();
        Due.due("share(-1, 2)", x.share(-1, 2), Due.NOBODY);
        Due.due("share(0, -1)", x.share(0, -1), Due.OTHER);
        Due.due("share(0, 1)", x.share(0, 1), Due.STATE);
        Due.refused(x, 1, 1, 1, 0, 0);
    }

    static void p20_servingRefuses() {
        GlassJar x = new GlassJar();
        Due.due("serving(2, 41, 2)", x.serving(2, 41, 2), Due.NOBODY);
        Due.due("serving(0, 41, 2)", x.serving(0, 41, 2), Due.OTHER);
        Due.due("serving(0, -1, 0)", x.serving(0, -1, 0), Due.BELOW);
        Due.due("serving(0, 41, 0)", x.serving(0, 41, 0), Due.ROOM);
        Due.due("serving(0, 40, 0)", x.serving(0, 40, 0), Due.STATE);
        Due.refused(x, 1, 1, 1, 1, 1);
    }

    static void p21_trulyRefuses() {
        GlassJar x = new GlassJar();
        Due.due("truly(2, -1, 2)", x.truly(2, -1, 2), Due.NOBODY);
        Due.due("truly(0, -1, 2)", x.truly(0, -1, 2), Due.OTHER);
        Due.due("truly(0, -1, 0)", x.truly(0, -1, 0), Due.BELOW);
        Due.due("truly(0, 41, 0)", x.truly(0, 41, 0), Due.ROOM);
        Due.due("truly(0, 40, 0)", x.truly(0, 40, 0), Due.STATE);
        Due.refused(x, 1, 1, 1, 1, 1);
    }
}
