/** The bounds of promises 13 to 17: the cut, the laws, who is called, who served, and wages. */
final class EdgeServiceTest {
    private static final int MIN = Integer.MIN_VALUE;
    private static final int MAX = Integer.MAX_VALUE;
    private static final int[] FIRST = {10, 150, 5, 80, 0};
    private static final int[] GREATEST = {99, 999, 100, 999, 99};

    public static void main(String[] args) throws Exception {
        Cases.run(EdgeServiceTest.class);
    }

    /** One man of each kind with number 2 (birthday 1), then one with number 1 whose kind is LUCKY. */
    private static Run kinds() {
        return Run.plain().men("s1,1000", "a1,1000", "n1,1000", "f1,1000", "c1,1000", "l1,1000", "l0,1000");
    }

    private static Run sixtyMen() {
        return Run.plain().same(59, "n0,0").man("a1,160");
    }

    private static void wages(Run x, int year, int... due) {
        for (int man = 0; man < due.length; man++) {
            x.due(due[man], "wage", 0, man, year);
        }
    }

    // "CUT (0 .. 366; 195 at first)"; "CUT: what it was. -4; -6 366."
    static void p13_cutIs195AtFirst() {
        new Run().due(195, "cut", 195).due(195, "cut", 0);
        Run.plain().men("s194,1", "s195,1").due(1, "called", 0, 0).due(0, "called", 0, 1);
    }

    static void p13_cut0IsTakenAndLessRefused() {
        new Run().due(195, "cut", 0).refused(-4, "cut", -1).refused(-4, "cut", MIN).due(0, "cut", 0);
    }

    static void p13_cut366IsTakenAndMoreRefused() {
        new Run().due(195, "cut", 366).refused(-6, "cut", 367).refused(-6, "cut", MAX).due(366, "cut", 366);
    }

    static void p13_aCutIsToldByTheNext() {
        new Run().due(195, "cut", 1).due(1, "cut", 365).due(365, "cut", 365).due(365, "cut", 7);
    }

    // "LAWS: 0 GROWS (0 .. 99; 10), 1 LOSS (0 .. 999; 150), 2 FADES (0 .. 100; 5), 3 SCHOOL (0 .. 999; 80),
    // 4 LOW (0 .. 99; 0)."
    static void p14_lawsAreAsToldAtFirst() {
        Run x = new Run();
        for (int law = 0; law < 5; law++) {
            x.due(FIRST[law], "law", law, FIRST[law]).due(FIRST[law], "law", law, 1).due(1, "law", law, 0);
        }
    }

    static void p14_eachLawMayBe0AndNotLess() {
        Run x = new Run();
        for (int law = 0; law < 5; law++) {
            x.due(FIRST[law], "law", law, 0).refused(-4, "law", law, -1).refused(-4, "law", law, MIN);
            x.due(0, "law", law, 0);
        }
    }

    static void p14_eachLawMayBeItsGreatestAndNotMore() {
        Run x = new Run();
        for (int law = 0; law < 5; law++) {
            x.due(FIRST[law], "law", law, GREATEST[law]);
            x.refused(-6, "law", law, GREATEST[law] + 1).refused(-6, "law", law, MAX);
            x.due(GREATEST[law], "law", law, GREATEST[law]);
        }
    }

    static void p14_laws0To4AreLawsAndOthersNot() {
        new Run().due(10, "law", 0, 9).due(0, "law", 4, 9).refused(-1, "law", -1, 9).refused(-1, "law", 5, 9)
                .refused(-1, "law", MIN, 9).refused(-1, "law", MAX, 9);
    }

    static void p14_noLawIsToldBeforeTheNumber() {
        new Run().refused(-1, "law", 5, -1).refused(-1, "law", -1, 1000).due(0, "count", 14).due(0, "count", 16);
    }

    static void p14_aLawLeavesTheOthers() {
        for (int changed = 0; changed < 5; changed++) {
            Run x = new Run().due(FIRST[changed], "law", changed, 77);
            for (int law = 0; law < 5; law++) {
                x.due(law == changed ? 77 : FIRST[law], "law", law, 1);
            }
        }
    }

    // "by a JAR a man is CALLED, if his NUMBER is CUT or less"
    static void p15_aManAtTheCutIsCalledAndAboveItNot() {
        Run x = Run.plain().men("s99,1", "s100,1").due(195, "cut", 100);
        x.due(1, "called", 0, 0).due(0, "called", 0, 1).due(100, "cut", 99).due(0, "called", 0, 0)
                .due(99, "cut", 101).due(1, "called", 0, 1);
    }

    static void p15_cut0CallsNobodyAndCut1TheFirst() {
        Run.plain().men("s0,1", "s1,1").due(195, "cut", 0).due(0, "called", 0, 0).due(0, "called", 1, 0)
                .due(0, "cut", 1).due(1, "called", 0, 0).due(0, "called", 0, 1);
    }

    static void p15_cut366CallsAllAndCut365NotTheLast() {
        Run.plain().men("s365,1", "s364,1").due(195, "cut", 366).due(1, "called", 0, 0).due(1, "called", 0, 1)
                .due(366, "cut", 365).due(0, "called", 0, 0).due(1, "called", 0, 1);
    }

    static void p15_eachJarCallsByItsOwnNumbers() {
        Run.plain().due(1, "pour", 1, 0).man("n0,1").due(1, "called", 0, 0).due(0, "called", 1, 0);
    }

    static void p15_everyKindIsCalled() {
        Run x = kinds();
        for (int man = 0; man < 7; man++) {
            x.due(1, "called", 0, man);
        }
    }

    static void p15_of60MenTheLastIsAManAndNoneBehindHim() {
        sixtyMen().due(1, "called", 0, 59).refused(-1, "called", 0, 60);
        new Run().refused(-1, "called", 0, 0);
    }

    static void p15_jarsAndMenWhoAreNotAreRefused() {
        Run x = Run.plain().man("s0,1").refusedJars("called", 0, 0);
        x.due(1, "called", 0, 0).due(1, "called", 1, 0).refused(-1, "called", 0, -1).refused(-1, "called", 0, 1);
        x.refused(-1, "called", 0, MIN).refused(-1, "called", 1, MAX).refused(-1, "called", 2, 1);
        x.due(9, "count", 11);
    }

    // "SERVED: SENT, if CALLED; ALWAYS; NEVER not; FLED not, but he is AWAY, if CALLED; CHOSEN always, and he is
    // SAFE, if CALLED; LUCKY, if CALLED and his NUMBER is even." -- "SERVED 1 (SAFE 2), AWAY 3, 0."
    static void p16_eachKindCalledAtTheCut() {
        Run x = kinds().due(195, "cut", 2);
        int[] due = {1, 1, 0, 3, 2, 1, 0};
        for (int man = 0; man < due.length; man++) {
            x.due(due[man], "served", 0, man);
        }
    }

    static void p16_eachKindJustAboveTheCut() {
        Run x = kinds().due(195, "cut", 1);
        int[] due = {0, 1, 0, 0, 1, 0, 0};
        for (int man = 0; man < due.length; man++) {
            x.due(due[man], "served", 0, man);
        }
    }

    static void p16_aLuckyManServesWithAnEvenNumberAlone() {
        Run x = Run.plain().men("l0,1", "l1,1", "l364,1", "l365,1").due(195, "cut", 366);
        x.due(0, "served", 0, 0).due(1, "served", 0, 1).due(0, "served", 0, 2).due(1, "served", 0, 3);
    }

    static void p16_eachJarSendsByItsOwnNumbers() {
        Run.plain().due(1, "pour", 1, 0).men("s0,1", "c0,1", "f0,1", "l1,1")
                .due(1, "served", 0, 0).due(0, "served", 1, 0).due(2, "served", 0, 1).due(1, "served", 1, 1)
                .due(3, "served", 0, 2).due(0, "served", 1, 2).due(1, "served", 0, 3).due(0, "served", 1, 3);
    }

    static void p16_of60MenTheLastIsAManAndNoneBehindHim() {
        sixtyMen().due(1, "served", 0, 59).due(0, "served", 0, 58).refused(-1, "served", 0, 60);
        new Run().refused(-1, "served", 0, 0);
    }

    static void p16_jarsAndMenWhoAreNotAreRefused() {
        Run x = Run.plain().man("s0,1").refusedJars("served", 0, 0);
        x.due(1, "served", 0, 0).due(1, "served", 1, 0).refused(-1, "served", 0, -1).refused(-1, "served", 0, 1);
        x.refused(-1, "served", 0, MIN).refused(-1, "served", 1, MAX).refused(-1, "served", 2, 1);
        x.due(9, "count", 11);
    }

    // "WAGE in YEAR y (0 .. 40)"; "-1 either; -4; -6 40"
    static void p17_years0And40HaveWagesAndOthersNot() {
        Run x = Run.plain().man("n0,5").due(5, "wage", 0, 0, 0).due(405, "wage", 0, 0, 40).due(395, "wage", 0, 0, 39);
        x.refused(-4, "wage", 0, 0, -1).refused(-4, "wage", 0, 0, MIN);
        x.refused(-6, "wage", 0, 0, 41).refused(-6, "wage", 0, 0, MAX);
    }

    static void p17_jarsAndMenWhoAreNotAreRefused() {
        Run x = Run.plain().man("n0,5").refusedJars("wage", 0, 0, 0);
        x.due(5, "wage", 1, 0, 0).refused(-1, "wage", 0, -1, 0).refused(-1, "wage", 0, 1, 0);
        x.refused(-1, "wage", 0, MIN, 0).refused(-1, "wage", 1, MAX, 0);
    }

    static void p17_of60MenTheLastIsAManAndNoneBehindHim() {
        sixtyMen().due(10, "wage", 0, 59, 0).due(0, "wage", 0, 58, 0).refused(-1, "wage", 0, 60, 0);
        new Run().refused(-1, "wage", 0, 0, 0);
    }

    static void p17_nobodyIsToldBeforeTheYear() {
        Run.plain().man("n0,5").refused(-1, "wage", 2, 0, -1).refused(-1, "wage", 0, 1, 41)
                .refused(-1, "wage", -1, -1, 41).due(0, "count", 14).due(0, "count", 16);
    }

    // "his WAGE and GROWS times y"
    static void p17_growsMayBe0Or99() {
        Run.plain().men("n0,0", "n0,9999").due(10, "law", 0, 0).due(0, "wage", 0, 0, 40)
                .due(9999, "wage", 0, 1, 40).due(0, "law", 0, 99).due(99, "wage", 0, 0, 1)
                .due(3960, "wage", 0, 0, 40).due(13959, "wage", 0, 1, 40);
    }

    // "if he SERVED less what is left of LOSS"; "SAFE: half of that, cut"; "if he is AWAY SCHOOL more; if CALLED
    // LOW less"
    static void p17_eachKindCalledAtTheCut() {
        Run x = kinds().due(195, "cut", 2).due(150, "law", 1, 151).due(0, "law", 4, 7);
        wages(x, 0, 842, 842, 993, 1073, 918, 842, 993);
    }

    static void p17_eachKindJustAboveTheCut() {
        Run x = kinds().due(195, "cut", 1).due(150, "law", 1, 151).due(0, "law", 4, 7);
        wages(x, 0, 1000, 849, 1000, 1000, 849, 1000, 993);
    }

    static void p17_lossMayBe0Or999() {
        Run x = kinds().due(150, "law", 1, 0);
        wages(x, 0, 1000, 1000, 1000, 1080, 1000, 1000, 1000);
        x.due(0, "law", 1, 999);
        wages(x, 0, 1, 1, 1000, 1080, 501, 1, 1000);
    }

    static void p17_halfOfWhatIsLeftIsCut() {
        Run x = Run.plain().man("c0,1000").due(150, "law", 1, 1).due(1000, "wage", 0, 0, 0);
        x.due(1, "law", 1, 2).due(999, "wage", 0, 0, 0).due(2, "law", 1, 3).due(999, "wage", 0, 0, 0);
    }

    static void p17_schoolMayBe0Or999() {
        Run x = Run.plain().men("f0,9999", "f300,9999").due(80, "law", 3, 0).due(9999, "wage", 0, 0, 0);
        x.due(0, "law", 3, 999).due(10998, "wage", 0, 0, 0).due(9999, "wage", 0, 1, 0);
    }

    static void p17_schoolDoesNotFade() {
        Run.plain().man("f0,0").due(5, "law", 2, 100).due(80, "wage", 0, 0, 0).due(480, "wage", 0, 0, 40);
    }

    static void p17_lowMayBe99AndDoesNotFade() {
        Run.plain().men("n0,0", "n300,0").due(0, "law", 4, 99).due(5, "law", 2, 100).due(10, "law", 0, 0)
                .due(-99, "wage", 0, 0, 0).due(-99, "wage", 0, 0, 40).due(0, "wage", 0, 1, 0);
    }

    // "LOSS times (100 less FADES times y, 0 at least) by 100, cut"
    static void p17_fadesTimesTheYearMayBe99Or100OrMore() {
        Run x = Run.plain().men("s0,1000").due(10, "law", 0, 0).due(150, "law", 1, 999).due(5, "law", 2, 33);
        x.due(991, "wage", 0, 0, 3).due(1000, "wage", 0, 0, 4);
        x.due(33, "law", 2, 25).due(751, "wage", 0, 0, 3).due(1000, "wage", 0, 0, 4).due(1000, "wage", 0, 0, 5);
    }

    static void p17_fadesMayBe0Or100() {
        Run x = Run.plain().man("s0,1000").due(10, "law", 0, 0).due(5, "law", 2, 0);
        x.due(850, "wage", 0, 0, 0).due(850, "wage", 0, 0, 40);
        x.due(0, "law", 2, 100).due(850, "wage", 0, 0, 0).due(1000, "wage", 0, 0, 1).due(1000, "wage", 0, 0, 40);
    }

    static void p17_whatIsLeftOfLossIsCut() {
        Run x = Run.plain().men("s0,1000", "c0,1000").due(10, "law", 0, 0).due(5, "law", 2, 1);
        // 999 times 99 by 100 is 989.01, its half 494.5; 101 times 99 by 100 is 99.99; of 1 nothing is left.
        x.due(150, "law", 1, 999).due(11, "wage", 0, 0, 1).due(506, "wage", 0, 1, 1);
        x.due(999, "law", 1, 101).due(901, "wage", 0, 0, 1).due(951, "wage", 0, 1, 1);
        x.due(101, "law", 1, 1).due(1000, "wage", 0, 0, 1).due(999, "wage", 0, 0, 0);
    }

    static void p17_theLeastWageIsBelow0() {
        Run.plain().man("s0,0").due(150, "law", 1, 999).due(0, "law", 4, 99).due(-1098, "wage", 0, 0, 0);
    }

    static void p17_theGreatestWage() {
        Run.plain().man("f0,9999").due(10, "law", 0, 99).due(80, "law", 3, 999).due(14958, "wage", 0, 0, 40);
    }
}
