/** The bounds of promises 28 to 30: the image, on from it, and what is counted. */
final class EdgeImageTest {
    private static final int MIN = Integer.MIN_VALUE;
    private static final int MAX = Integer.MAX_VALUE;

    public static void main(String[] args) throws Exception {
        Cases.run(EdgeImageTest.class);
    }

    private static Run full() {
        return Run.plain().same(60, "s0,9");
    }

    // "THE IMAGE is taken: how many men."
    static void p28_anImageOfNobodyIsOneToo() {
        new Run().due(0, "image").due(0, "on");
    }

    static void p28_anImageOf60Men() {
        full().due(60, "image").due(60, "on").feed("s1,1").refused(-6, "man");
    }

    static void p28_anImageLeavesAllAsItIs() {
        Run x = Run.plain().men("s1,11").due(195, "cut", 9).due(10, "law", 0, 8).due(3, "least", 7).feed("n2,2");
        x.due(1, "image").due(1, "count", 0).due(9, "cut", 9).due(8, "law", 0, 8).due(7, "least", 7)
                .due(4, "count", 3).due(2, "number", 0, 1).due(1, "man");
    }

    static void p28_aSecondImageTakesTheFirstOnesPlace() {
        new Run().man("s1,1").due(1, "image").man("s2,2").due(195, "cut", 9).due(2, "image").due(9, "cut", 8)
                .due(2, "on").due(9, "cut", 8);
    }

    static void p28_aSmallerImageTakesTheGreaterOnesPlace() {
        new Run().due(0, "image").man("s1,1").due(1, "image").due(1, "on").due(1, "image").due(1, "count", 0);
        Run x = new Run().due(0, "image").men("s1,1", "s2,2");
        x.due(0, "on").due(0, "image").due(0, "on").due(0, "count", 0);
    }

    // "ON from it: how many men. -3 there is none."
    static void p29_withoutAnImageItIsRefused() {
        new Run().refused(-3, "on").refused(-3, "on").man("s1,1").refused(-3, "on").due(1, "count", 0);
    }

    static void p29_aRefusedOnTakesNoImage() {
        new Run().refused(-3, "on").refused(-3, "on").due(0, "image").due(0, "on");
    }

    // "JARS, MEN, CUT, LAWS, LEAST; ON from it all is as then"
    static void p29_bothJarsNumbersAreAsThen() {
        for (int jar = 0; jar < 2; jar++) {
            Run x = new Run().due(1, "jar", jar, 7, 2000, 365, 366).due(0, "image").due(1, "jar", jar, 1, 0, 0, 1);
            x.due(1, "number", jar, 0).due(0, "on").due(323, "number", jar, 0).due(-244802, "lean", jar)
                    .due(345, "dayOf", jar, 1).due(195, "dayOf", jar, 366).due(0, "worst", jar)
                    .due(33663, "turned", jar).due(4, "number", 1 - jar, 0);
        }
    }

    static void p29_seedShakesSpreadAndDepthAreAsThen() {
        for (int jar = 0; jar < 2; jar++) {
            Run x = new Run().due(1, "jar", jar, 9, 50, 10, 3).due(0, "image").due(1, "jar", jar, 8, 51, 11, 4);
            x.due(0, "on").due(1, "pour", jar, 0).due(-16328574, "lean", jar).due(66055, "turned", jar);
            x.due(1, "pour", jar, 1).due(16330438, "lean", jar).due(688, "turned", jar);
        }
    }

    static void p29_whetherJarsArePouredIsAsThen() {
        for (int jar = 0; jar < 2; jar++) {
            new Run().due(0, "image").due(1, "pour", jar, 0).due(0, "on").due(0, "pour", jar, 1)
                    .due(4, "number", jar, 0);
            new Run().due(1, "pour", jar, 0).due(0, "image").due(1, "pour", jar, 1).due(0, "on")
                    .due(0, "pour", jar, 0).due(363, "number", jar, 0);
        }
    }

    static void p29_menWhoCameLaterAreGone() {
        Run x = new Run().man("s1,11").due(1, "image").man("a2,22").due(1, "on").due(1, "count", 0);
        x.refused(-1, "manOf", 1, 0).due(11, "manOf", 0, 2);
        x.feed("n3,33").due(1, "man").due(2, "manOf", 1, 0).due(3, "manOf", 1, 1).due(33, "manOf", 1, 2);
    }

    static void p29_from60MenBackToNobody() {
        Run x = Run.plain().due(0, "image");
        x.same(60, "s0,9");
        x.feed("c5,55").refused(-6, "man").due(0, "on").due(0, "count", 0).refused(-1, "manOf", 0, 0)
                .due(0, "shown").due(0, "man").due(4, "manOf", 0, 0).due(5, "manOf", 0, 1);
    }

    static void p29_from59MenAgainTo60() {
        Run x = Run.plain().same(59, "s0,9");
        x.due(59, "image").man("a1,8").feed("c5,55").refused(-6, "man").due(59, "on").due(59, "man")
                .due(4, "manOf", 59, 0).due(9, "manOf", 58, 2).feed("n1,1").refused(-6, "man");
    }

    static void p29_menOfTheImageAreBackOverOthers() {
        // on() of an image with two men, after on() of none brought others into their places.
        Run x = new Run().due(0, "image").men("s1,11", "a2,22").due(0, "on");
        x.feed("l7,77").due(0, "man").due(1, "image").feed("n8,88").due(1, "man").due(1, "on");
        x.due(5, "manOf", 0, 0).due(7, "manOf", 0, 1).due(77, "manOf", 0, 2).refused(-1, "manOf", 1, 0);
    }

    static void p29_cutIsAsThen() {
        new Run().due(195, "cut", 0).due(0, "image").due(0, "cut", 366).due(0, "on").due(0, "cut", 366);
        new Run().due(195, "cut", 366).due(0, "image").due(366, "cut", 0).due(0, "on").due(366, "cut", 0);
    }

    static void p29_eachLawIsAsThen() {
        for (int law = 0; law < 5; law++) {
            Run x = new Run();
            long first = x.ask("law", law, 60 + law);
            x.due(0, "image").due(60 + law, "law", law, 3).due(0, "on").due(60 + law, "law", law, first);
        }
    }

    static void p29_leastIsAsThen() {
        new Run().due(3, "least", 60).due(0, "image").due(60, "least", 1).due(0, "on").due(60, "least", 1);
    }

    static void p29_whatFollowsIsAsThen() {
        Run x = Run.plain().men("s0,100", "s300,100", "n1,50").due(3, "least", 1).due(3, "image");
        x.due(195, "cut", 366).due(150, "law", 1, 0).due(1, "pour", 1, 0).man("a5,1").due(1, "least", 60);
        x.due(3, "on").fraction(-100, 1, "does", 0, 0).fraction(1, 2, "share", 0).fraction(-200, 1, "serving", 0, 0)
                .fraction(-150, 1, "truly", 0, 0).due(14, "faded", 0, 50).due(0, "moved").due(301, "cuts", 0, 3)
                .due(1 | 1 << 9, "shown").fraction(0, 1, "group", 0, 0, 0).due(1, "count", 1).due(1, "count", 2);
    }

    static void p29_onTwiceIsAsOnOnce() {
        new Run().man("s1,1").due(1, "image").due(1, "on").due(1, "on").due(1, "count", 0);
        new Run().man("s1,1").due(1, "image").due(195, "cut", 5).due(1, "on").due(195, "cut", 6).due(1, "on")
                .due(195, "cut", 7);
    }

    // "(THE TAPE and REFUSALS stay)"
    static void p29_theTapeStays() {
        new Run().feed("s1,").due(0, "image").feed("55").due(0, "on").due(5, "count", 3).due(0, "man")
                .due(55, "manOf", 0, 2);
        new Run().feed("s1,1").due(0, "image").due(0, "man").due(0, "on").due(0, "count", 3).due(-20, "man");
    }

    static void p29_aFullTapeStays() {
        new Run().due(0, "image").feed("s365,999900000").due(0, "on").due(14, "count", 3).refused(-6, "feed", 1, 0)
                .due(-29, "man");
    }

    static void p29_refusalsStay() {
        // What was refused before the image and after it is counted still.
        Run x = new Run().refused(-1, "number", 2, 0).refused(-4, "cut", -1).due(0, "image");
        x.refused(-1, "number", 0, 366).refused(-6, "cut", 367).refused(-2, "mean", 0, 0, 2)
                .refused(-3, "share", 0, 0).due(0, "on");
        x.due(2, "count", 11).due(1, "count", 12).due(1, "count", 13).due(1, "count", 14).due(1, "count", 16);
    }

    // "0 men, 1 SERVED by JAR 0, 2 by JAR 1, 3 bytes on THE TAPE, 11 .. 16 REFUSALS -1 .. -6. -9 for another what."
    static void p30_whats0To3And11To16AreCountedAndOthersNot() {
        Run x = new Run();
        for (int what : new int[] {0, 1, 2, 3, 11, 12, 13, 14, 15, 16}) {
            x.due(0, "count", what);
        }
        for (int what : new int[] {MIN, -9, -1, 4, 5, 9, 10, 17, 18, MAX}) {
            x.due(-9, "count", what);
        }
    }

    static void p30_anotherWhatIsNotCountedAsARefusal() {
        Run x = new Run().due(-9, "count", -1).due(-9, "count", 4).due(-9, "count", 10).due(-9, "count", 17);
        for (int what = 11; what <= 16; what++) {
            x.due(0, "count", what);
        }
    }

    static void p30_menFrom0To60() {
        new Run().due(0, "count", 0);
        full().due(60, "count", 0);
    }

    static void p30_servedFrom0To60() {
        full().due(60, "count", 1).due(60, "count", 2).due(195, "cut", 0).due(0, "count", 1).due(0, "count", 2);
    }

    static void p30_servedIsByEachJarAndItsCut() {
        // SAFE men served, AWAY men did not; by jar 1 nobody of these is called.
        Run x = Run.plain().due(1, "pour", 1, 0).men("s0,1", "a1,1", "n2,1", "f3,1", "c4,1", "l5,1", "l6,1");
        x.due(4, "count", 1).due(2, "count", 2).due(195, "cut", 5).due(3, "count", 1).due(5, "cut", 0)
                .due(2, "count", 1);
    }

    static void p30_bytesFrom0To14() {
        new Run().due(0, "count", 3).due(8, "feed", 8, 0).due(8, "count", 3).due(14, "feed", 6, 0).due(14, "count", 3)
                .due(-20, "man").due(0, "count", 3);
    }

    static void p30_eachRefusalCountsItsOwnNumber() {
        new Run().refused(-1, "worst", 2).due(1, "count", 11).due(0, "count", 12);
        new Run().refused(-2, "share", 0, 2).due(1, "count", 12).due(0, "count", 11).due(0, "count", 13);
        new Run().refused(-3, "on").due(1, "count", 13).due(0, "count", 12).due(0, "count", 14);
        new Run().refused(-4, "least", 0).due(1, "count", 14).due(0, "count", 13).due(0, "count", 15);
        new Run().refused(-6, "least", 61).due(1, "count", 16).due(0, "count", 15).due(-9, "count", 17);
    }

    static void p30_faultsAndNonesAreNoRefusals() {
        Run x = new Run().fault("", 0).fault("s366,1", 1).due(-9, "faded", 0, 0).due(-9, "cuts", 0, 1)
                .fraction(-9, 1, "group", 0, 0, 0).due(0, "pour", 0, 1);
        for (int what = 11; what <= 16; what++) {
            x.due(0, "count", what);
        }
    }

    static void p30_manyRefusalsAreAllCounted() {
        Run x = new Run();
        for (int i = 0; i < 100; i++) {
            x.refused(-1, "lean", 2).refused(-2, "mean", 0, 0, 2).refused(-3, "on").refused(-4, "cut", -1)
                    .refused(-6, "cut", 367);
        }
        x.due(100, "count", 11).due(100, "count", 13).due(0, "count", 15);
    }
}
