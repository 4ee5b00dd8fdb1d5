/** The bounds of promises 18 to 22: what a low number does, whom it sends, what serving does, when it fades. */
final class EdgeEffectTest {
    private static final int MIN = Integer.MIN_VALUE;
    private static final int MAX = Integer.MAX_VALUE;

    public static void main(String[] args) throws Exception {
        Cases.run(EdgeEffectTest.class);
    }

    /** A SENT man with number 1 and one with 301, so that each call of this file has an answer. */
    private static Run twoMen() {
        return Run.plain().men("s0,100", "s300,100");
    }

    /** 58 men with number 1, one with number 2, and last one with number 301. */
    private static Run sixtyMen(String text, String man58, String man59) {
        return Run.plain().same(58, text).man(man58).man(man59);
    }

    private static void refusedYears(Run x, String name) {
        x.refused(-4, name, 0, -1, 0).refused(-4, name, 0, MIN, 1);
        x.refused(-6, name, 0, 41, 0).refused(-6, name, 0, MAX, 1);
    }

    /** -1; -2; -4; -6; -3: each stands before those behind it. */
    private static void ordered(String name) {
        Run x = new Run();
        x.refused(-1, name, 2, -1, 2).refused(-1, name, -1, 41, -1).refused(-1, name, 2, 0, 0);
        x.refused(-2, name, 0, -1, 2).refused(-2, name, 0, 41, -1).refused(-2, name, 0, 0, 2);
        x.refused(-4, name, 0, -1, 0).refused(-6, name, 0, 41, 1).refused(-3, name, 0, 40, 1);
    }

    // "DOES in YEAR y: the mean WAGE of CALLED men less that of others .. none, if there are none of one of both."
    static void p18_withoutMenThereIsNone() {
        new Run().noFraction("does", 0, 0).noFraction("does", 1, 40);
    }

    static void p18_withoutCalledMenThereIsNone() {
        Run.plain().man("s195,1").noFraction("does", 0, 0).due(195, "cut", 196).noFraction("does", 0, 0);
        twoMen().due(195, "cut", 0).noFraction("does", 0, 0);
    }

    static void p18_withoutOtherMenThereIsNone() {
        twoMen().due(195, "cut", 301).noFraction("does", 0, 0).due(301, "cut", 366).noFraction("does", 0, 0);
    }

    static void p18_oneManOnEitherSideIsEnough() {
        twoMen().fraction(-150, 1, "does", 0, 0);
        twoMen().due(195, "cut", 1).fraction(-150, 1, "does", 0, 0);
        twoMen().due(195, "cut", 300).fraction(-150, 1, "does", 0, 0);
    }

    // "in least terms (the line's lower number above 0)"
    static void p18_theLowerNumberIsAbove0AndTermsAreLeast() {
        Run.plain().men("n0,1", "n1,2", "n300,0").fraction(3, 2, "does", 0, 0);
        Run.plain().men("n0,1", "n1,3", "n300,0").fraction(2, 1, "does", 0, 0);
        Run.plain().men("n0,0", "n300,1", "n301,2").fraction(-3, 2, "does", 0, 0);
        Run.plain().men("n0,1", "n1,2", "n300,1", "n301,2", "n302,2").fraction(-1, 6, "does", 0, 0);
    }

    static void p18_doesMayBe0() {
        Run.plain().men("n0,5", "n1,6", "n300,5", "n301,6").fraction(0, 1, "does", 0, 0);
    }

    static void p18_years0And40AreAnsweredAndOthersRefused() {
        refusedYears(twoMen().due(5, "law", 2, 1).fraction(-150, 1, "does", 0, 0).fraction(-90, 1, "does", 0, 40)
                .fraction(-91, 1, "does", 0, 39), "does");
    }

    static void p18_jarsAndPartsThatAreNotAreRefused() {
        Run x = twoMen().fraction(-150, 1, "does", 1, 0);
        x.refusedJars("does", 0, 0, 0);
        x.refusedParts("does", 0, 0, 0);
    }

    static void p18_refusalsAreToldInTheirOrder() {
        ordered("does");
    }

    static void p18_of60Men() {
        sixtyMen("n0,9999", "n1,9998", "n300,0").fraction(589940, 59, "does", 0, 0).due(195, "cut", 1)
                .fraction(5000, 1, "does", 0, 40).due(1, "cut", 301).noFraction("does", 0, 0);
    }

    static void p18_greatestAndLeastDoes() {
        Run.plain().men("f0,9999", "n300,0").due(80, "law", 3, 999).fraction(10998, 1, "does", 0, 0);
        Run.plain().men("s0,0", "n300,9999").due(150, "law", 1, 999).due(0, "law", 4, 99)
                .fraction(-11097, 1, "does", 0, 0);
    }

    // "SHARE: the part of CALLED men who SERVED less that of others, likewise."
    static void p19_withoutMenThereIsNone() {
        new Run().noFraction("share", 0).noFraction("share", 1);
    }

    static void p19_withoutMenOnOneSideThereIsNone() {
        twoMen().due(195, "cut", 0).noFraction("share", 0).due(0, "cut", 301).noFraction("share", 0)
                .due(301, "cut", 300).fraction(1, 1, "share", 0).due(300, "cut", 1).fraction(1, 1, "share", 0);
    }

    static void p19_shareMayBe1And0AndMinus1() {
        twoMen().fraction(1, 1, "share", 0);
        Run.plain().men("n0,1", "n300,1").fraction(0, 1, "share", 0);
        Run.plain().men("a0,1", "a300,1").fraction(0, 1, "share", 0);
        Run.plain().men("n0,1", "a300,1").fraction(-1, 1, "share", 0);
    }

    static void p19_termsAreLeastAndTheLowerNumberAbove0() {
        Run.plain().men("s0,1", "s1,1", "n2,1", "n3,1", "n300,1").fraction(1, 2, "share", 0);
        Run.plain().men("n0,1", "a300,1", "a301,1", "n302,1", "n303,1").fraction(-1, 2, "share", 0);
    }

    static void p19_of60Men() {
        sixtyMen("s0,1", "n1,1", "n300,1").fraction(58, 59, "share", 0).due(195, "cut", 1).fraction(1, 1, "share", 0);
        sixtyMen("n0,1", "n1,1", "a300,1").fraction(-1, 1, "share", 0).due(195, "cut", 1).fraction(-1, 2, "share", 0);
    }

    static void p19_safeMenServedAndAwayMenDidNot() {
        Run.plain().men("c0,1", "n300,1").due(2, "served", 0, 0).fraction(1, 1, "share", 0);
        Run.plain().men("f0,1", "n300,1").due(3, "served", 0, 0).fraction(0, 1, "share", 0);
        Run.plain().men("n0,1", "c300,1").fraction(-1, 1, "share", 0);
    }

    static void p19_jarsAndPartsThatAreNotAreRefused() {
        Run x = twoMen().fraction(1, 1, "share", 1);
        x.refusedJars("share", 0, 0);
        x.refusedParts("share", 0, 0);
    }

    static void p19_refusalsAreToldInTheirOrder() {
        new Run().refused(-1, "share", 2, 2).refused(-1, "share", -1, -1).refused(-1, "share", 2, 0)
                .refused(-2, "share", 0, 2).refused(-2, "share", 1, -1).refused(-3, "share", 0, 0);
    }

    // "SERVING: DOES by SHARE; none, if SHARE is 0 or none."
    static void p20_ifShareIs0ThereIsNone() {
        Run.plain().men("n0,1", "n300,5").fraction(-4, 1, "does", 0, 0).fraction(0, 1, "share", 0)
                .noFraction("serving", 0, 0);
        Run.plain().men("a0,1", "a300,5").fraction(0, 1, "share", 0).noFraction("serving", 0, 40);
    }

    static void p20_ifShareIsNoneThereIsNone() {
        new Run().noFraction("serving", 0, 0);
        twoMen().due(195, "cut", 0).noFraction("serving", 0, 0).due(0, "cut", 366).noFraction("serving", 0, 0);
    }

    static void p20_ifDoesIs0ServingIs0() {
        Run.plain().men("s0,250", "s300,100").fraction(0, 1, "does", 0, 0).fraction(0, 1, "serving", 0, 0);
        Run.plain().men("n0,100", "a300,250").fraction(-1, 1, "share", 0).fraction(0, 1, "serving", 0, 0);
    }

    static void p20_theLowerNumberIsAbove0IfShareIsBelow() {
        Run.plain().men("n0,100", "a300,100").fraction(150, 1, "does", 0, 0).fraction(-1, 1, "share", 0)
                .fraction(-150, 1, "serving", 0, 0);
        Run.plain().men("n0,0", "a300,250", "a301,251").fraction(-201, 2, "does", 0, 0)
                .fraction(201, 2, "serving", 0, 0);
    }

    static void p20_termsAreLeast() {
        // DOES -149 by 2; SHARE 1 by 2: the twos go.
        Run.plain().men("s0,100", "n1,101", "n300,100").fraction(-149, 2, "does", 0, 0).fraction(1, 2, "share", 0)
                .fraction(-149, 1, "serving", 0, 0);
        // DOES -50; SHARE 1 by 3.
        Run.plain().men("s0,100", "n1,100", "n2,100", "n300,100").fraction(-50, 1, "does", 0, 0)
                .fraction(-150, 1, "serving", 0, 0);
    }

    static void p20_of60Men() {
        // DOES: 58 times 9849 and 9939, by 59, less 1; SHARE: 58 by 59.
        sixtyMen("s0,9999", "n1,9939", "n300,1").fraction(581122, 59, "does", 0, 0)
                .fraction(290561, 29, "serving", 0, 0);
    }

    static void p20_years0And40AreAnsweredAndOthersRefused() {
        refusedYears(twoMen().due(5, "law", 2, 1).fraction(-150, 1, "serving", 0, 0)
                .fraction(-90, 1, "serving", 0, 40), "serving");
    }

    static void p20_jarsAndPartsThatAreNotAreRefused() {
        Run x = twoMen().fraction(-150, 1, "serving", 1, 0);
        x.refusedJars("serving", 0, 0, 0);
        x.refusedParts("serving", 0, 0, 0);
    }

    static void p20_refusalsAreToldInTheirOrder() {
        ordered("serving");
    }

    // "TRULY: the mean, over men who by their KIND SERVE if CALLED and not if not (SENT; LUCKY with an even
    // NUMBER), of their WAGE if they were CALLED and SERVED less that if neither (by LAWS; LOW counts)."
    static void p21_withoutMenThereIsNone() {
        new Run().noFraction("truly", 0, 0).noFraction("truly", 1, 40);
    }

    static void p21_withoutSuchMenThereIsNone() {
        Run.plain().men("a0,1", "n0,1", "f0,1", "c0,1", "l0,1", "l364,1").noFraction("truly", 0, 0);
    }

    static void p21_oneSuchManIsEnough() {
        Run.plain().men("a0,1", "s365,7").fraction(-150, 1, "truly", 0, 0);
        Run.plain().men("l0,1", "l365,7").fraction(-150, 1, "truly", 0, 0);
    }

    static void p21_aLuckyMansNumberIsByTheJarThatIsTold() {
        Run x = Run.plain().due(1, "pour", 1, 0).man("l0,1").noFraction("truly", 0, 0).fraction(-150, 1, "truly", 1, 0);
        x.due(1, "pour", 0, 0).fraction(-150, 1, "truly", 0, 0);
    }

    static void p21_of60Men() {
        sixtyMen("s0,1", "l1,9999", "s300,7").fraction(-150, 1, "truly", 0, 0);
        sixtyMen("n0,1", "n1,1", "s300,7").fraction(-150, 1, "truly", 0, 0);
        sixtyMen("n0,1", "a1,1", "l300,7").noFraction("truly", 0, 0);
    }

    static void p21_nobodyNeedsToBeCalled() {
        Run.plain().men("s0,1", "l1,1").due(195, "cut", 0).fraction(-150, 1, "truly", 0, 0)
                .due(0, "cut", 366).fraction(-150, 1, "truly", 0, 0);
    }

    static void p21_theLawsAtTheirLeastAndGreatest() {
        Run.plain().man("s0,1").due(150, "law", 1, 0).fraction(0, 1, "truly", 0, 0).due(0, "law", 4, 99)
                .fraction(-99, 1, "truly", 0, 0).due(0, "law", 1, 999).fraction(-1098, 1, "truly", 0, 0);
    }

    static void p21_yearsInWhichAllHasFaded() {
        twoMen().fraction(-7, 1, "truly", 0, 19).fraction(0, 1, "truly", 0, 20).fraction(0, 1, "truly", 0, 40);
    }

    static void p21_years0And40AreAnsweredAndOthersRefused() {
        refusedYears(twoMen().due(5, "law", 2, 1).fraction(-150, 1, "truly", 0, 0)
                .fraction(-90, 1, "truly", 0, 40), "truly");
    }

    static void p21_jarsAndPartsThatAreNotAreRefused() {
        Run x = twoMen().fraction(-150, 1, "truly", 1, 0);
        x.refusedJars("truly", 0, 0, 0);
        x.refusedParts("truly", 0, 0, 0);
    }

    static void p21_refusalsAreToldInTheirOrder() {
        ordered("truly");
    }

    // "FADED: the first YEAR (0 .. 40) in which DOES, without sign, is no more than told; -9 none, or no DOES."
    static void p22_doesAsToldIsNoMore() {
        Run.plain().men("n0,5", "n300,0").due(0, "faded", 0, 5).due(-9, "faded", 0, 4).due(0, "faded", 0, 6);
        Run.plain().men("n0,0", "n300,5").due(0, "faded", 0, 5).due(-9, "faded", 0, 4).due(0, "faded", 0, 6);
    }

    static void p22_aHalfAboveWhatIsToldIsMore() {
        Run.plain().men("n0,1", "n1,2", "n300,0").due(-9, "faded", 0, 1).due(0, "faded", 0, 2);
        Run.plain().men("n0,0", "n300,1", "n301,2").due(-9, "faded", 0, 1).due(0, "faded", 0, 2);
    }

    static void p22_of60Men() {
        sixtyMen("n0,9999", "n1,9998", "n300,0").due(-9, "faded", 0, 9998).due(0, "faded", 0, 9999);
        sixtyMen("s0,100", "n1,100", "n300,100").due(20, "faded", 0, 0).due(19, "faded", 0, 7);
    }

    static void p22_year0MayBeTheFirst() {
        twoMen().due(0, "faded", 0, 150).due(1, "faded", 0, 149);
    }

    static void p22_year40MayBeTheFirst() {
        twoMen().due(5, "law", 2, 1).due(39, "faded", 0, 91).due(40, "faded", 0, 90).due(-9, "faded", 0, 89);
    }

    static void p22_theFirstOfSeveralYearsIsTold() {
        // DOES: 75 less what is left of 150; 0 in 10, and 75 from 20 on.
        Run.plain().men("s0,1075", "n300,1000").due(10, "faded", 0, 0).due(9, "faded", 0, 10)
                .due(0, "faded", 0, 75).due(1, "faded", 0, 74);
    }

    static void p22_withoutDoesThereIsNone() {
        new Run().due(-9, "faded", 0, 0).due(-9, "faded", 1, 9999);
        twoMen().due(195, "cut", 0).due(-9, "faded", 0, 9999).due(0, "cut", 366).due(-9, "faded", 0, 9999);
    }

    static void p22_told0AndNotLess() {
        Run x = twoMen().due(20, "faded", 0, 0).refused(-4, "faded", 0, -1).refused(-4, "faded", 0, MIN);
        x.due(0, "law", 4, 1).due(-9, "faded", 0, 0);
    }

    static void p22_told9999AndNotMore() {
        Run x = Run.plain().men("n0,9999", "n300,0").due(0, "faded", 0, 9999).due(-9, "faded", 0, 9998);
        x.refused(-6, "faded", 0, 10000).refused(-6, "faded", 0, MAX);
        Run.plain().men("f0,9999", "n300,0").due(80, "law", 3, 1).due(-9, "faded", 0, 9999)
                .due(1, "law", 3, 0).due(0, "faded", 0, 9999);
    }

    static void p22_jarsThatAreNotAreRefused() {
        Run x = twoMen().due(20, "faded", 1, 0);
        x.refusedJars("faded", 0, 0);
    }

    static void p22_refusalsAreToldInTheirOrder() {
        new Run().refused(-1, "faded", 2, -1).refused(-1, "faded", -1, 10000).refused(-4, "faded", 0, -1)
                .refused(-6, "faded", 0, 10000).due(-9, "faded", 0, 9999);
    }
}
