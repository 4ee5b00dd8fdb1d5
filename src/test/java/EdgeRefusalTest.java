/**
 * "REFUSALS (.. nothing changes but how many there were)": after all refusals of a call all is as it was. That the
 * right count went up is asked behind each test, by Run.
 */
final class EdgeRefusalTest {
    private static final int MIN = Integer.MIN_VALUE;
    private static final int MAX = Integer.MAX_VALUE;

    public static void main(String[] args) throws Exception {
        Cases.run(EdgeRefusalTest.class);
    }

    static void p02_refusedFeedLeavesAllAsItWas() {
        Twins.rich().refused(-4, "feed", 0, '9').refused(-4, "feed", MIN, '9').refused(-6, "feed", 9, '9')
                .refused(-6, "feed", MAX, '9').areAlike();
        Twins.fresh().refused(-4, "feed", 0, 's').refused(-6, "feed", 9, 's').areAlike();
        Twins.full().refused(-4, "feed", 0, '9').refused(-6, "feed", 1, '9').refused(-6, "feed", 8, '9')
                .refused(-6, "feed", 9, '9').areAlike();
    }

    static void p03_refusedManLeavesAllAsItWas() {
        Twins.full().refused(-6, "man").refused(-6, "man").areAlike();
    }

    static void p04_refusedJarLeavesAllAsItWas() {
        Twins.rich().refused(-1, "jar", 2, 5, 10, 3, 2).refused(-1, "jar", -1, 5, 10, 3, 2)
                .refused(-4, "jar", 0, 5, -1, 3, 2).refused(-4, "jar", 1, 5, 10, -1, 2)
                .refused(-4, "jar", 0, 5, 10, 3, 0).refused(-6, "jar", 1, 5, 2001, 3, 2)
                .refused(-6, "jar", 0, 5, 10, 366, 2).refused(-6, "jar", 1, 5, 10, 3, 367).areAlike();
        Twins.fresh().refused(-1, "jar", MIN, 5, 10, 3, 2).refused(-4, "jar", 0, 5, MIN, 3, 2)
                .refused(-6, "jar", 1, 5, 10, 3, MAX).areAlike();
    }

    // "-1; -4; -6 (2000; 365; 366)"
    static void p04_noJarIsToldFirstThenBelowThenAbove() {
        Run x = new Run().refused(-1, "jar", 2, 0, -1, -1, 0).refused(-1, "jar", -1, 0, 2001, 366, 367);
        x.refused(-1, "jar", 2, 0, -1, 366, 1);
        x.refused(-4, "jar", 0, 0, -1, 366, 1).refused(-4, "jar", 0, 0, -1, 0, 367);
        x.refused(-4, "jar", 0, 0, 2001, -1, 1).refused(-4, "jar", 0, 0, 0, -1, 367);
        x.refused(-4, "jar", 0, 0, 2001, 0, 0).refused(-4, "jar", 0, 0, 0, 366, 0);
        x.refused(-4, "jar", 0, 0, -1, -1, 0).refused(-6, "jar", 0, 0, 2001, 366, 367);
    }

    static void p05_refusedPourLeavesAllAsItWas() {
        Twins.rich().refused(-1, "pour", 2, 0).refused(-1, "pour", 2, 1).refused(-1, "pour", -1, 0)
                .refused(-1, "pour", -1, 1).areAlike();
        Twins.fresh().refused(-1, "pour", MIN, 0).refused(-1, "pour", MAX, 0).areAlike();
    }

    static void p06_refusedNumberLeavesAllAsItWas() {
        Twins.rich().refused(-1, "number", 2, 0).refused(-1, "number", 0, -1).refused(-1, "number", 1, 366).areAlike();
    }

    static void p07_refusedDayOfLeavesAllAsItWas() {
        Twins.rich().refused(-1, "dayOf", 2, 1).refused(-4, "dayOf", 0, 0).refused(-6, "dayOf", 1, 367).areAlike();
    }

    static void p08_refusedMeanLeavesAllAsItWas() {
        Twins.rich().refused(-1, "mean", 2, 0, 0).refused(-1, "mean", 0, 12, 0).refused(-2, "mean", 0, 0, 2)
                .areAlike();
    }

    static void p09_refusedLeanLeavesAllAsItWas() {
        Twins.rich().refused(-1, "lean", 2).refused(-1, "lean", -1).areAlike();
    }

    static void p10_refusedWorstLeavesAllAsItWas() {
        Twins.rich().refused(-1, "worst", 2).refused(-1, "worst", -1).areAlike();
    }

    static void p11_refusedTurnedLeavesAllAsItWas() {
        Twins.rich().refused(-1, "turned", 2).refused(-1, "turned", -1).areAlike();
    }

    static void p12_refusedManOfLeavesAllAsItWas() {
        Twins.rich().refused(-1, "manOf", 6, 0).refused(-1, "manOf", -1, 0).refused(-2, "manOf", 0, 3).areAlike();
        Twins.fresh().refused(-1, "manOf", 0, 0).areAlike();
    }

    static void p13_refusedCutLeavesAllAsItWas() {
        Twins.rich().refused(-4, "cut", -1).refused(-6, "cut", 367).refused(-4, "cut", MIN).refused(-6, "cut", MAX)
                .areAlike();
    }

    static void p14_refusedLawLeavesAllAsItWas() {
        Twins rich = Twins.rich().refused(-1, "law", -1, 5).refused(-1, "law", 5, 5);
        rich.refused(-6, "law", 0, 100).refused(-6, "law", 1, 1000).refused(-6, "law", 2, 101)
                .refused(-6, "law", 3, 1000).refused(-6, "law", 4, 100);
        for (int law = 0; law < 5; law++) {
            rich.refused(-4, "law", law, -1);
        }
        rich.areAlike();
    }

    static void p15_refusedCalledLeavesAllAsItWas() {
        Twins.rich().refused(-1, "called", 2, 0).refused(-1, "called", 0, 6).areAlike();
    }

    static void p16_refusedServedLeavesAllAsItWas() {
        Twins.rich().refused(-1, "served", 2, 0).refused(-1, "served", 0, 6).areAlike();
    }

    static void p17_refusedWageLeavesAllAsItWas() {
        Twins.rich().refused(-1, "wage", 2, 0, 0).refused(-1, "wage", 0, 6, 0).refused(-4, "wage", 0, 0, -1)
                .refused(-6, "wage", 0, 0, 41).areAlike();
    }

    private static Twins refusedByYearAndPart(Twins twins, String name) {
        return twins.refused(-1, name, 2, 0, 0).refused(-2, name, 0, 0, 2).refused(-4, name, 0, -1, 0)
                .refused(-6, name, 0, 41, 0);
    }

    static void p18_refusedDoesLeavesAllAsItWas() {
        refusedByYearAndPart(Twins.rich(), "does").areAlike();
        Twins.fresh().refused(-3, "does", 0, 0, 0).areAlike();
    }

    static void p19_refusedShareLeavesAllAsItWas() {
        Twins.rich().refused(-1, "share", 2, 0).refused(-2, "share", 0, 2).areAlike();
        Twins.fresh().refused(-3, "share", 0, 0).areAlike();
    }

    static void p20_refusedServingLeavesAllAsItWas() {
        refusedByYearAndPart(Twins.rich(), "serving").areAlike();
        Twins.fresh().refused(-3, "serving", 0, 0, 0).areAlike();
    }

    static void p21_refusedTrulyLeavesAllAsItWas() {
        refusedByYearAndPart(Twins.rich(), "truly").areAlike();
        Twins.fresh().refused(-3, "truly", 0, 0, 0).areAlike();
    }

    static void p22_refusedFadedLeavesAllAsItWas() {
        Twins.rich().refused(-1, "faded", 2, 0).refused(-4, "faded", 0, -1).refused(-6, "faded", 0, 10000).areAlike();
    }

    static void p23_refusedGroupLeavesAllAsItWas() {
        Twins.rich().refused(-1, "group", 2, 0, 0, 0).refused(-1, "group", 0, 12, 0, 0)
                .refused(-2, "group", 0, 0, 0, 2).refused(-4, "group", 0, 0, -1, 0)
                .refused(-6, "group", 0, 0, 41, 0).areAlike();
    }

    static void p24_refusedLeastLeavesAllAsItWas() {
        Twins.rich().refused(-4, "least", 0).refused(-6, "least", 61).refused(-4, "least", MIN)
                .refused(-6, "least", MAX).areAlike();
    }

    static void p27_refusedCutsLeavesAllAsItWas() {
        Twins.rich().refused(-1, "cuts", 2, 1).refused(-4, "cuts", 0, -1).refused(-6, "cuts", 0, 61).areAlike();
    }

    static void p29_refusedOnLeavesAllAsItWas() {
        Twins.fresh().refused(-3, "on").areAlike();
        Run x = Run.plain().due(1, "pour", 1, 0).men("s1,1").due(195, "cut", 50).due(10, "law", 0, 5)
                .due(3, "least", 1).feed("n2,").refused(-3, "on");
        x.due(1, "count", 0).due(50, "cut", 50).due(5, "law", 0, 5).due(1, "least", 1).due(1, "number", 0, 0)
                .due(366, "number", 1, 0).due(3, "count", 3).due(1, "manOf", 0, 1);
    }

    // "Of lean(), wage() and of all with a part REFUSALS are 4000000000000000000 less them (longs; -1 as
    // 4000000000000000001)"
    static void p30_everyCallsRefusalHasItsForm() {
        GlassJar x = new GlassJar();
        long no = 4000000000000000000L;
        Due.due("mean", x.mean(2, 0, 0), no + 1);
        Due.due("lean", x.lean(2), no + 1);
        Due.due("wage", x.wage(0, 0, 0), no + 1);
        Due.due("does", x.does(0, 0, 2), no + 2);
        Due.due("share", x.share(0, 0), no + 3);
        Due.due("serving", x.serving(0, -1, 0), no + 4);
        Due.due("truly", x.truly(0, 41, 0), no + 6);
        Due.due("group", x.group(0, 0, 0, 2), no + 2);
        Due.due("number", x.number(2, 0), -1);
        Due.due("on", x.on(), -3);
        Due.due("cuts", x.cuts(0, 61), -6);
        Due.refused(x, 4, 2, 2, 1, 2);
    }
}
