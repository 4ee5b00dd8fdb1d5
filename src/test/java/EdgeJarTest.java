/** The bounds of promises 1 and 4 to 11: a new object, jars, and the numbers that come of them. */
final class EdgeJarTest {
    private static final int MIN = Integer.MIN_VALUE;
    private static final int MAX = Integer.MAX_VALUE;

    public static void main(String[] args) throws Exception {
        Cases.run(EdgeJarTest.class);
    }

    private static Run jar(int seed, int shakes, int spread, int depth) {
        return new Run().due(1, "jar", 0, seed, shakes, spread, depth);
    }

    /** The first four and the last four days that are drawn from jar 0. */
    private static Run drawn(Run x, int... days) {
        for (int i = 0; i < 4; i++) {
            x.due(days[i], "dayOf", 0, 1 + i).due(days[4 + i], "dayOf", 0, 363 + i);
        }
        return x;
    }

    // "GlassJar(): No men."
    static void p01_newObjectHasNoMen() {
        new Run().due(0, "count", 0).refused(-1, "manOf", 0, 0).refused(-1, "called", 0, 0)
                .refused(-1, "served", 1, 0).refused(-1, "wage", 0, 0, 0);
    }

    static void p01_newObjectHasNobodyWhoServed() {
        new Run().due(0, "count", 1).due(0, "count", 2);
    }

    static void p01_newObjectHasNoTape() {
        new Run().due(0, "count", 3).due(-20, "man");
    }

    static void p01_newObjectHasNoRefusals() {
        Run x = new Run();
        for (int what = 11; what <= 16; what++) {
            x.due(0, "count", what);
        }
    }

    static void p01_newObjectHasNoImage() {
        new Run().refused(-3, "on");
    }

    // "JARS 0, 1 have a SEED (any int; 1 at first), SHAKES (0 .. 2000; 100), SPREAD (0 .. 365; 20), DEPTH (1 ..
    // 366; 1), whether they are POURED (at first they are)."
    static void p01_newJarsAreMadeOf1And100And20And1() {
        for (int jar = 0; jar < 2; jar++) {
            Run fresh = new Run();
            Run told = new Run().due(1, "jar", jar, 1, 100, 20, 1);
            for (int day = 0; day < 366; day++) {
                fresh.due(told.ask("number", jar, day), "number", jar, day);
            }
            fresh.due(16307486, "lean", jar).due(1109, "turned", jar);
        }
    }

    static void p01_newJarsArePoured() {
        new Run().due(0, "pour", 0, 1).due(0, "pour", 1, 1);
    }

    static void p01_newJarsAreTurnedOverAsTheyWereMade() {
        for (int jar = 0; jar < 2; jar++) {
            new Run().due(1, "pour", jar, 0).due(363, "number", jar, 0).due(9, "number", jar, 365)
                    .due(-16307486, "lean", jar).due(65686, "turned", jar);
        }
    }

    // "An object is used for at most 512 calls after it has been made"
    static void p01_the512thCallIsAnsweredStill() {
        Run x = new Run();
        for (int call = 1; call < 512; call++) {
            x.refused(-1, "number", 0, 366);
        }
        x.due(511, "count", 11);
        Due.due("calls left", x.callsLeft(), 0);
    }

    // "JARS 0, 1"
    static void p04_jars0And1AreMadeAndOthersRefused() {
        Run x = new Run().due(1, "jar", 0, 5, 0, 0, 1).due(1, "jar", 1, 5, 0, 0, 1);
        x.refusedJars("jar", 0, 5, 0, 0, 1);
    }

    static void p04_theOtherJarStays() {
        new Run().due(1, "jar", 0, 5, 0, 0, 1).due(1, "number", 0, 0).due(4, "number", 1, 0);
        new Run().due(1, "jar", 1, 5, 0, 0, 1).due(1, "number", 1, 0).due(4, "number", 0, 0);
    }

    // "SHAKES (0 .. 2000; 100)"
    static void p04_shakes0AreMadeAndFewerRefused() {
        Run x = jar(1, 0, 20, 1).due(16342510, "lean", 0).due(0, "turned", 0);
        x.refused(-4, "jar", 0, 1, -1, 20, 1).refused(-4, "jar", 0, 1, MIN, 20, 1);
        x.due(16342510, "lean", 0);
    }

    static void p04_shakes1ChangeOnePair() {
        drawn(jar(1, 1, 20, 1), 0, 1, 2, 3, 362, 363, 364, 357).due(15, "turned", 0);
    }

    static void p04_shakes1999And2000Differ() {
        drawn(jar(1, 1999, 20, 1), 62, 32, 26, 33, 348, 322, 344, 321).due(15153446, "lean", 0);
        drawn(jar(1, 2000, 20, 1), 62, 32, 26, 33, 348, 322, 344, 321).due(15157762, "lean", 0);
    }

    static void p04_shakes2000AreMadeAndMoreRefused() {
        Run x = jar(1, 2000, 20, 1).due(8160, "turned", 0);
        x.refused(-6, "jar", 0, 1, 2001, 20, 1).refused(-6, "jar", 0, 1, MAX, 20, 1);
        x.due(8160, "turned", 0);
    }

    // "SPREAD (0 .. 365; 20)"
    static void p04_spread0IsMadeAndLessRefused() {
        Run x = jar(1, 100, 0, 1).due(16342510, "lean", 0);
        x.refused(-4, "jar", 0, 1, 100, -1, 1).refused(-4, "jar", 0, 1, 100, MIN, 1);
    }

    static void p04_spread1ChangesNeighbours() {
        jar(1, 100, 1, 1).due(16342286, "lean", 0).due(49, "turned", 0);
    }

    static void p04_spread365IsMadeAndMoreRefused() {
        Run x = drawn(jar(1, 100, 365, 1), 255, 1, 2, 286, 362, 363, 106, 192).due(11318378, "lean", 0);
        x.refused(-6, "jar", 0, 1, 100, 366, 1).refused(-6, "jar", 0, 1, 100, MAX, 1);
        drawn(jar(1, 100, 364, 1), 63, 1, 2, 138, 362, 363, 364, 67);
    }

    // "DEPTH (1 .. 366; 1)"
    static void p04_depth1IsMadeAndLessRefused() {
        Run x = jar(1, 0, 0, 1).due(0, "turned", 0);
        x.refused(-4, "jar", 0, 1, 0, 0, 0).refused(-4, "jar", 0, 1, 0, 0, -1);
        x.refused(-4, "jar", 0, 1, 0, 0, MIN);
    }

    static void p04_depth2LeavesThoseAboveAsTheyAre() {
        drawn(jar(1, 0, 0, 2), 1, 2, 3, 0, 362, 364, 365, 363).due(196, "turned", 0);
        drawn(jar(4, 0, 0, 2), 1, 2, 3, 4, 362, 364, 363, 365);
    }

    static void p04_depth366IsMadeAndMoreRefused() {
        Run x = drawn(jar(1, 0, 0, 366), 357, 188, 190, 123, 23, 301, 201, 175).due(784962, "lean", 0);
        x.refused(-6, "jar", 0, 1, 0, 0, 367).refused(-6, "jar", 0, 1, 0, 0, MAX);
    }

    static void p04_depth365CanNotReachTheLowestAtFirst() {
        // The first lot's number is 365: the lowest of 366, and again the highest of 365.
        drawn(jar(73855205, 0, 0, 366), 365, 272, 102, 199, 134, 207, 135, 91);
        drawn(jar(73855205, 0, 0, 365), 0, 273, 103, 200, 135, 208, 136, 92);
    }

    // "a lot of DEPTH (of what is left, if that is less)"
    static void p04_depthIsOfWhatIsLeftIfThatIsLess() {
        // Of 366 the second lot would be 365, of the 365 that are left it is 0: the highest, which is day 0.
        jar(-365156322, 0, 0, 366).due(88, "dayOf", 0, 1).due(0, "dayOf", 0, 2).due(162, "dayOf", 0, 3);
        // With two left the lot of 3 would be 2, that of 2 is 1.
        jar(2, 0, 0, 3).due(364, "dayOf", 0, 364).due(365, "dayOf", 0, 365).due(360, "dayOf", 0, 366);
    }

    // "SEED (any int; 1 at first)"; "make z become z times 1664525 and 1013904223 (an int)"
    static void p04_seedMayBeTheLeastInt() {
        drawn(jar(MIN, 0, 0, 366), 77, 118, 260, 187, 183, 226, 301, 339).due(-121090, "lean", 0);
        jar(MIN, 2000, 365, 366).due(1263494, "lean", 0).due(31702, "turned", 0);
    }

    static void p04_seedMayBeTheGreatestInt() {
        drawn(jar(MAX, 0, 0, 366), 163, 45, 101, 249, 262, 156, 173, 175).due(468002, "lean", 0);
        jar(MAX, 2000, 365, 366).due(-813630, "lean", 0).due(34561, "turned", 0);
    }

    static void p04_seedMayBe0AndBelow0() {
        // The sign's bit of z never comes into a lot, so 0 is as the least int, and -1 as the greatest.
        jar(0, 0, 0, 366).due(-121090, "lean", 0).due(33523, "turned", 0);
        jar(-1, 0, 0, 366).due(468002, "lean", 0).due(32759, "turned", 0);
    }

    // "and is z without its sign's bit by 256, cut, modulo what is asked for"
    static void p04_lotOfZWithTheSignsBitAlone() {
        jar(-1512697883, 0, 0, 366).due(0, "dayOf", 0, 1);
        jar(-2043751195, 0, 0, 366).due(1, "dayOf", 0, 1);
    }

    static void p04_lotOfZMinus1AndTheGreatestZ() {
        jar(653637408, 0, 0, 366).due(253, "dayOf", 0, 1);
        jar(-1493846240, 0, 0, 366).due(253, "dayOf", 0, 1);
    }

    static void p04_lotIsCutBy256() {
        jar(634785765, 0, 0, 366).due(0, "dayOf", 0, 1);
        jar(122584096, 0, 0, 366).due(0, "dayOf", 0, 1);
        jar(103732453, 0, 0, 366).due(1, "dayOf", 0, 1);
        jar(-408469216, 0, 0, 366).due(1, "dayOf", 0, 1);
        jar(-427320859, 0, 0, 366).due(2, "dayOf", 0, 1);
    }

    static void p04_lotIsModuloWhatIsAskedFor() {
        jar(-438346464, 0, 0, 366).due(365, "dayOf", 0, 1);
        jar(-457198107, 0, 0, 366).due(0, "dayOf", 0, 1);
    }

    // "LOTS: from the SEED on"
    static void p04_theSameJarMadeAgainIsTheSame() {
        Run x = jar(1, 100, 365, 3);
        long lean = x.ask("lean", 0);
        x.due(1, "jar", 0, 1, 100, 365, 3).due(lean, "lean", 0);
        x.due(1, "jar", 1, 1, 100, 365, 3).due(lean, "lean", 1);
    }

    // "a lot of (2 SPREAD and 1) less SPREAD how far another one is"
    static void p04_shakesWithSpread0TakeTheirLots() {
        drawn(jar(1, 1, 0, 366), 165, 166, 227, 177, 354, 23, 155, 6);
        drawn(jar(1, 2000, 0, 366), 25, 220, 211, 205, 248, 319, 12, 271);
    }

    static void p04_farthestIsSpreadOnEitherSide() {
        jar(88, 1, 20, 1).due(220, "number", 0, 199).due(200, "number", 0, 219).due(39, "turned", 0);
        jar(502, 1, 20, 1).due(99, "number", 0, 118).due(119, "number", 0, 98).due(39, "turned", 0);
    }

    static void p04_aPlaceMayChangeWithItself() {
        jar(12, 1, 20, 1).due(144, "number", 0, 143).due(0, "turned", 0);
    }

    // "(held within 0 .. 365)"
    static void p04_placeIsHeldAbove0() {
        // 12 less 12 is 0; 9 less 10 is held at 0; 0 less 12 is held at 0, where it is.
        jar(384, 1, 20, 1).due(13, "number", 0, 0).due(1, "number", 0, 12).due(23, "turned", 0);
        jar(1105, 1, 20, 1).due(10, "number", 0, 0).due(1, "number", 0, 9).due(17, "turned", 0);
        jar(184, 1, 20, 1).due(1, "number", 0, 0).due(0, "turned", 0);
    }

    static void p04_placeIsHeldBelow365() {
        // 357 and 8 are 365; 352 and 14 are held at 365, and so are 364 and 19.
        jar(1, 1, 20, 1).due(358, "number", 0, 365).due(366, "number", 0, 357).due(15, "turned", 0);
        jar(610, 1, 20, 1).due(353, "number", 0, 365).due(366, "number", 0, 352).due(25, "turned", 0);
        jar(299, 1, 20, 1).due(365, "number", 0, 365).due(366, "number", 0, 364).due(1, "turned", 0);
    }

    static void p04_pouredStaysAsItWas() {
        jar(5, 0, 0, 1).due(0, "pour", 0, 1);
        new Run().due(1, "pour", 0, 0).due(1, "jar", 0, 5, 0, 0, 1).due(366, "number", 0, 0).due(0, "pour", 0, 0);
    }

    // "POURED, or not: 1; 0 it was so. -1."
    static void p05_pourAnswers0IfItWasSo() {
        new Run().due(0, "pour", 0, 1).due(1, "pour", 0, 0).due(0, "pour", 0, 0)
                .due(1, "pour", 0, 1).due(0, "pour", 0, 1);
    }

    static void p05_pourThatAnswers0ChangesNothing() {
        new Run().due(0, "pour", 0, 1).due(16307486, "lean", 0)
                .due(1, "pour", 0, 0).due(0, "pour", 0, 0).due(-16307486, "lean", 0);
    }

    static void p05_jars0And1ArePouredAndOthersRefused() {
        Run x = new Run().due(1, "pour", 0, 0).due(1, "pour", 1, 0);
        x.refusedJars("pour", 0, 1);
        x.refusedJars("pour", 0, 0);
    }

    static void p05_theOtherJarStays() {
        Run.plain().due(1, "pour", 0, 0).due(366, "number", 0, 0).due(1, "number", 1, 0).due(0, "pour", 1, 1);
        Run.plain().due(1, "pour", 1, 0).due(366, "number", 1, 0).due(1, "number", 0, 0).due(0, "pour", 0, 1);
    }

    static void p05_theWholeRowIsTurnedOver() {
        Run x = Run.plain().due(1, "pour", 0, 0);
        for (int day = 0; day < 366; day++) {
            x.due(366 - day, "number", 0, day);
        }
    }

    static void p05_aJarTurnedOverIsDrawnWithItsOwnLots() {
        Run x = drawn(jar(9, 50, 10, 3), 0, 2, 15, 13, 362, 365, 364, 358);
        drawn(x.due(1, "pour", 0, 0), 365, 363, 361, 362, 13, 0, 1, 7).due(66055, "turned", 0);
        drawn(x.due(1, "pour", 0, 1), 0, 2, 15, 13, 362, 365, 364, 358).due(688, "turned", 0);
    }

    // "DAYS are 0 .. 365"; "-1 either"
    static void p06_days0And365HaveNumbersAndOthersNot() {
        Run x = new Run().due(4, "number", 0, 0).due(358, "number", 0, 365).due(358, "number", 1, 365);
        x.refused(-1, "number", 0, -1).refused(-1, "number", 0, 366).refused(-1, "number", 1, 366);
        x.refused(-1, "number", 0, MIN).refused(-1, "number", 0, MAX);
    }

    static void p06_jarsBesides0And1AreRefused() {
        new Run().refusedJars("number", 0, 0);
    }

    static void p06_aJarAndADayThatAreNotAreOneRefusal() {
        new Run().refused(-1, "number", 2, 366).refused(-1, "number", -1, -1).due(2, "count", 11);
    }

    // "NUMBER of a DAY: 1 .. 366, as it is DRAWN."
    static void p06_numbersAre1To366EachOnce() {
        for (int depth : new int[] {1, 2, 365, 366}) {
            Run x = jar(3, 300, 365, depth);
            boolean[] had = new boolean[367];
            for (int day = 0; day < 366; day++) {
                int number = (int) x.ask("number", 0, day);
                boolean fits = number >= 1 && number <= 366 && !had[number];
                Due.due("a number of its own for day " + day, fits ? 1 : 0, 1);
                had[fits ? number : 0] = true;
            }
        }
    }

    // "The DAY with a NUMBER. -1; -4; -6 366."
    static void p07_number1HasADayAndLessNot() {
        Run x = new Run().due(3, "dayOf", 0, 1).due(3, "dayOf", 1, 1);
        x.refused(-4, "dayOf", 0, 0).refused(-4, "dayOf", 0, -1).refused(-4, "dayOf", 1, MIN);
    }

    static void p07_number366HasADayAndMoreNot() {
        Run x = new Run().due(357, "dayOf", 0, 366).due(357, "dayOf", 1, 366);
        x.refused(-6, "dayOf", 0, 367).refused(-6, "dayOf", 1, MAX);
    }

    static void p07_jarsBesides0And1AreRefused() {
        new Run().refusedJars("dayOf", 0, 1);
    }

    static void p07_noJarIsToldBeforeTheNumber() {
        new Run().refused(-1, "dayOf", 2, 0).refused(-1, "dayOf", -1, 367);
    }

    static void p07_daysOf1To366AreEachOnce() {
        Run x = jar(12, 700, 200, 366);
        boolean[] had = new boolean[366];
        for (int number = 1; number <= 366; number++) {
            int day = (int) x.ask("dayOf", 0, number);
            boolean fits = day >= 0 && day <= 365 && !had[day];
            Due.due("a day of its own for number " + number, fits ? 1 : 0, 1);
            had[fits ? day : 0] = true;
        }
    }

    // "MONTHS 0 .. 11 of 31, 29, 31, 30, 31, 30, 31, 31, 30, 31, 30, 31 DAYS"
    static void p08_monthsHoldTheirFirstAndLastDay() {
        Run x = Run.plain();
        for (int month = 0; month < 12; month++) {
            int twice = Due.MONTH_STARTS[month] + 1 + Due.MONTH_STARTS[month + 1];
            boolean even = twice % 2 == 0;
            x.fraction(even ? twice / 2 : twice, even ? 1 : 2, "mean", 0, month);
        }
    }

    static void p08_months0And11HaveMeansAndOthersNot() {
        Run x = new Run().fraction(515, 31, "mean", 0, 0).fraction(10847, 31, "mean", 0, 11);
        x.refused(-1, "mean", 0, -1, 0).refused(-1, "mean", 0, 12, 0);
        x.refused(-1, "mean", 0, MIN, 1).refused(-1, "mean", 1, MAX, 1);
    }

    static void p08_jarsBesides0And1AreRefused() {
        new Run().refusedJars("mean", 0, 0, 0);
    }

    static void p08_parts0And1AreToldAndOthersNot() {
        Run x = new Run().due(515, "mean", 1, 0, 0).due(31, "mean", 1, 0, 1);
        x.refused(-2, "mean", 0, 0, -1).refused(-2, "mean", 0, 0, 2);
        x.refused(-2, "mean", 0, 11, MIN).refused(-2, "mean", 1, 0, MAX);
    }

    static void p08_noJarAndNoMonthAreToldBeforeThePart() {
        new Run().refused(-1, "mean", 2, 0, 2).refused(-1, "mean", 0, 12, 2).refused(-1, "mean", -1, -1, -1)
                .due(3, "count", 11).due(0, "count", 12);
    }

    // "MEAN of a MONTH: of the NUMBERS of its DAYS, in least terms."
    static void p08_meanIsInLeastTerms() {
        // 2692 by 58 would be too: twice the sum by twice the 29 days.
        new Run().due(1346, "mean", 0, 1, 0).due(29, "mean", 0, 1, 1);
        jar(6646, 0, 0, 366).fraction(1499, 10, "mean", 0, 3);
        jar(1051, 0, 0, 366).fraction(232, 1, "mean", 0, 3).fraction(135, 1, "mean", 0, 6);
    }

    // "LEAN: the sum over DAYS of (2 times the DAY less 365) times (2 times the NUMBER less 367)."
    static void p09_greatestAndLeastLean() {
        Run.plain().due(16342510, "lean", 0).due(1, "pour", 0, 0).due(-16342510, "lean", 0)
                .due(16342510, "lean", 1);
    }

    static void p09_jarsBesides0And1AreRefused() {
        Run x = new Run().due(16307486, "lean", 0).due(16307486, "lean", 1);
        x.refusedJars("lean", 0);
    }

    // "WORST: the MONTH whose MEAN is farthest from 367 by 2, of several the least."
    static void p10_ofTwoEqualMonthsTheLeastIsWorst() {
        Run.plain().due(0, "worst", 0).due(1, "pour", 0, 0).due(0, "worst", 0);
        // Above the middle both, below it both, and one on either side.
        jar(3692, 0, 0, 366).due(6, "worst", 0).fraction(6843, 31, "mean", 0, 6).fraction(6843, 31, "mean", 0, 9);
        jar(6646, 0, 0, 366).due(3, "worst", 0).fraction(1499, 10, "mean", 0, 3).fraction(1499, 10, "mean", 0, 10);
        jar(10266, 0, 0, 366).due(7, "worst", 0).fraction(6585, 31, "mean", 0, 7).fraction(4792, 31, "mean", 0, 9);
    }

    static void p10_equalMonthsMayBeOfOtherLengths() {
        // April's 232 and July's 135 are both 48.5 from the middle.
        jar(1051, 0, 0, 366).due(3, "worst", 0);
        jar(2, 0, 0, 1).due(0, "worst", 0);
    }

    static void p10_months0And1And10And11MayBeWorst() {
        jar(7, 2000, 365, 366).due(0, "worst", 0);
        jar(1, 0, 0, 366).due(1, "worst", 0).due(1, "pour", 0, 0).due(10, "worst", 0);
        jar(1, 2000, 365, 366).due(11, "worst", 0);
    }

    static void p10_jarsBesides0And1AreRefused() {
        Run x = new Run().due(0, "worst", 0).due(0, "worst", 1);
        x.refusedJars("worst", 0);
    }

    // "TURNED: pairs of DAYS of which the later one has the lesser NUMBER."
    static void p11_noPairAndAllPairsAreTurned() {
        Run.plain().due(0, "turned", 0).due(1, "pour", 0, 0).due(66795, "turned", 0).due(0, "turned", 1);
    }

    static void p11_onePairIsTurned() {
        jar(299, 1, 20, 1).due(1, "turned", 0).due(1, "pour", 0, 0).due(66794, "turned", 0);
    }

    static void p11_jarsBesides0And1AreRefused() {
        Run x = new Run().due(1109, "turned", 0).due(1109, "turned", 1);
        x.refusedJars("turned", 0);
    }
}
