/** The bounds of promises 23 to 27: groups shown or hidden, and what another jar or cut would change. */
final class EdgeBookTest {
    private static final int MIN = Integer.MIN_VALUE;
    private static final int MAX = Integer.MAX_VALUE;

    public static void main(String[] args) throws Exception {
        Cases.run(EdgeBookTest.class);
    }

    // "GROUPS by MONTHS of birthdays: mean WAGE of a MONTH in a YEAR; hidden (-9 by 1), if there are fewer than
    // LEAST (1 .. 60; 3 at first) men."
    static void p23_asManyAsLeastAreShownAndOneFewerHidden() {
        Run x = Run.plain().men("n0,1", "n1,2").fraction(-9, 1, "group", 0, 0, 0);
        x.man("n2,4").fraction(7, 3, "group", 0, 0, 0).due(3, "least", 4).fraction(-9, 1, "group", 0, 0, 0);
        x.man("n3,5").fraction(3, 1, "group", 0, 0, 0);
    }

    static void p23_anEmptyMonthIsHiddenByLeast1() {
        Run.plain().due(3, "least", 1).fraction(-9, 1, "group", 0, 0, 0).man("n0,8").fraction(8, 1, "group", 0, 0, 0)
                .fraction(-9, 1, "group", 0, 1, 0);
    }

    static void p23_sixtyMenAreShownByLeast60And59Hidden() {
        Run x = Run.plain().due(3, "least", 60).same(59, "n0,9999").fraction(-9, 1, "group", 0, 0, 0);
        x.man("n30,9998").fraction(599939, 60, "group", 0, 0, 0).fraction(623939, 60, "group", 0, 0, 40);
    }

    static void p23_aMonthHoldsItsFirstAndLastDay() {
        for (int month = 0; month < 12; month++) {
            Run x = Run.plain().due(3, "least", 1);
            x.man("n" + Due.MONTH_STARTS[month] + ",1").man("n" + (Due.MONTH_STARTS[month + 1] - 1) + ",4");
            x.fraction(5, 2, "group", 0, month, 0);
            x.fraction(-9, 1, "group", 0, (month + 1) % 12, 0).fraction(-9, 1, "group", 0, (month + 11) % 12, 0);
        }
    }

    static void p23_hiddenCountsNoRefusal() {
        Run x = new Run().fraction(-9, 1, "group", 0, 0, 0);
        for (int what = 11; what <= 16; what++) {
            x.due(0, "count", what);
        }
    }

    static void p23_theLowerNumberIsAbove0ForAMeanBelow0() {
        Run.plain().due(3, "least", 2).men("s0,0", "s1,1").fraction(-299, 2, "group", 0, 0, 0)
                .due(150, "law", 1, 0).fraction(1, 2, "group", 0, 0, 0);
    }

    static void p23_aMeanMayBe0() {
        Run.plain().due(3, "least", 1).men("n0,0", "n1,0").fraction(0, 1, "group", 0, 0, 0);
    }

    static void p23_months0And11AreMonthsAndOthersNot() {
        Run x = Run.plain().due(3, "least", 1).men("n0,3", "n365,4");
        x.fraction(3, 1, "group", 0, 0, 0).fraction(4, 1, "group", 0, 11, 0);
        x.refused(-1, "group", 0, -1, 0, 0).refused(-1, "group", 0, 12, 0, 0);
        x.refused(-1, "group", 0, MIN, 0, 0).refused(-1, "group", 0, MAX, 0, 0);
    }

    static void p23_years0And40AreAnsweredAndOthersRefused() {
        Run x = Run.plain().due(3, "least", 1).man("n0,3").fraction(403, 1, "group", 0, 0, 40);
        x.refused(-4, "group", 0, 0, -1, 0).refused(-4, "group", 0, 0, MIN, 1);
        x.refused(-6, "group", 0, 0, 41, 0).refused(-6, "group", 0, 0, MAX, 1);
    }

    static void p23_jarsAndPartsThatAreNotAreRefused() {
        Run x = Run.plain().due(3, "least", 1).man("n0,3").fraction(3, 1, "group", 1, 0, 0);
        x.refusedJars("group", 0, 0, 0, 0);
        x.refusedParts("group", 0, 0, 0, 0);
    }

    static void p23_refusalsAreToldInTheirOrder() {
        Run x = new Run();
        x.refused(-1, "group", 2, 0, -1, 2).refused(-1, "group", 0, 12, 41, 2).refused(-1, "group", 2, 12, 0, 0);
        x.refused(-2, "group", 0, 0, -1, 2).refused(-2, "group", 0, 0, 41, -1);
        x.refused(-4, "group", 0, 0, -1, 0).refused(-6, "group", 0, 0, 41, 1);
    }

    // "LEAST: what it was. -4; -6 60."
    static void p24_leastIs3AtFirst() {
        new Run().due(3, "least", 3).due(3, "least", 1);
        new Run().men("n0,1", "n0,1").due(0, "shown").man("n0,1").due(1, "shown");
    }

    static void p24_least1IsTakenAndLessRefused() {
        new Run().due(3, "least", 1).refused(-4, "least", 0).refused(-4, "least", -1).refused(-4, "least", MIN)
                .due(1, "least", 1);
    }

    static void p24_least60IsTakenAndMoreRefused() {
        new Run().due(3, "least", 60).refused(-6, "least", 61).refused(-6, "least", MAX).due(60, "least", 60);
    }

    // "SHOWN: MONTHS that are not hidden (bits)."
    static void p25_withoutMenNothingIsShown() {
        new Run().due(0, "shown").due(3, "least", 1).due(0, "shown").due(1, "least", 60).due(0, "shown");
    }

    static void p25_eachMonthHasItsBitFromItsFirstToItsLastDay() {
        for (int month = 0; month < 12; month++) {
            Run x = new Run().due(3, "least", 1).man("n" + Due.MONTH_STARTS[month] + ",1").due(1 << month, "shown");
            x.man("n" + (Due.MONTH_STARTS[month + 1] - 1) + ",1").due(1 << month, "shown");
            x.due(1, "least", 2).due(1 << month, "shown").due(2, "least", 3).due(0, "shown");
        }
    }

    static void p25_allMonthsMayBeShown() {
        Run x = new Run().due(3, "least", 5);
        for (int man = 0; man < 60; man++) {
            x.man("n" + (Due.MONTH_STARTS[man % 12] + man % 29) + ",1");
        }
        x.due(4095, "shown").due(5, "least", 6).due(0, "shown");
    }

    static void p25_sixtyMenAreShownByLeast60And59Hidden() {
        new Run().due(3, "least", 60).same(59, "n365,1").due(0, "shown").man("n335,1").due(2048, "shown");
    }

    // "MOVED: how many men are CALLED by just one of both JARS."
    static void p26_withoutMenNobodyMoved() {
        new Run().due(0, "moved");
    }

    static void p26_byEqualJarsNobodyMoved() {
        Run.plain().men("s0,1", "n194,1", "s195,1", "a365,1").due(0, "moved");
    }

    static void p26_byCut0And366NobodyMoved() {
        Run x = Run.plain().due(1, "pour", 1, 0).men("s0,1", "n365,1").due(2, "moved");
        x.due(195, "cut", 0).due(0, "moved").due(0, "cut", 366).due(0, "moved").due(366, "cut", 365).due(2, "moved")
                .due(365, "cut", 1).due(2, "moved");
    }

    static void p26_aManAtTheCutMovedAndOneCalledByBothDidNot() {
        // By jar 1 the numbers are 366 less the day: 171 has 172 and 195, 170 has 171 and 196.
        Run.plain().due(1, "pour", 1, 0).man("s171,1").due(0, "moved").man("s170,1").due(1, "moved")
                .man("s194,1").due(1, "moved").man("s195,1").due(2, "moved");
    }

    static void p26_sixtyMenMayHaveMoved() {
        Run.plain().due(1, "pour", 1, 0).same(60, "s0,1").due(60, "moved").due(1, "pour", 0, 0).due(0, "moved");
    }

    // "CUTS: the least CUT (0 .. 366) by which told many men are CALLED, or more; -9 none."
    static void p27_nobodyNeedsCut0() {
        new Run().due(0, "cuts", 0, 0).man("s0,1").due(0, "cuts", 0, 0).due(0, "cuts", 1, 0);
    }

    static void p27_withoutMenThereIsNoneFor1Or60() {
        new Run().due(-9, "cuts", 0, 1).due(-9, "cuts", 1, 60);
    }

    static void p27_asManyAsThereAreAndOneMore() {
        Run.plain().men("s0,1", "s9,1", "s99,1").due(1, "cuts", 0, 1).due(10, "cuts", 0, 2).due(100, "cuts", 0, 3)
                .due(-9, "cuts", 0, 4);
    }

    static void p27_cuts1And366AreTheLeastAndGreatest() {
        Run.plain().men("s0,1", "s365,1").due(1, "cuts", 0, 1).due(366, "cuts", 0, 2).due(1, "pour", 1, 0)
                .due(1, "cuts", 1, 1).due(366, "cuts", 1, 2);
    }

    static void p27_orMoreWhereSeveralHaveOneNumber() {
        Run.plain().men("s9,1", "n9,1", "a9,1", "s0,1").due(1, "cuts", 0, 1).due(10, "cuts", 0, 2)
                .due(10, "cuts", 0, 3).due(10, "cuts", 0, 4).due(-9, "cuts", 0, 5);
    }

    static void p27_theCutThatStandsDoesNotMatterAndStays() {
        Run.plain().man("s9,1").due(195, "cut", 0).due(10, "cuts", 0, 1).due(0, "cut", 366).due(10, "cuts", 0, 1)
                .due(366, "cut", 366);
    }

    static void p27_sixtyMenMayBeToldAndNotMore() {
        Run x = Run.plain().same(59, "s0,1").due(-9, "cuts", 0, 60).man("s300,1").due(301, "cuts", 0, 60);
        x.due(1, "cuts", 0, 59).refused(-6, "cuts", 0, 61).refused(-6, "cuts", 0, MAX);
    }

    static void p27_told0AndNotLess() {
        new Run().due(0, "cuts", 0, 0).refused(-4, "cuts", 0, -1).refused(-4, "cuts", 1, MIN);
    }

    static void p27_jarsThatAreNotAreRefused() {
        Run.plain().man("s0,1").due(1, "cuts", 1, 1).refusedJars("cuts", 0, 1);
    }

    static void p27_noJarIsToldBeforeTheNumber() {
        new Run().refused(-1, "cuts", 2, -1).refused(-1, "cuts", -1, 61).due(0, "count", 14).due(0, "count", 16);
    }
}
