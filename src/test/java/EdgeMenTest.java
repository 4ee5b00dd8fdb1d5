/** The bounds of promises 2, 3 and 12: the tape, its faults, and the men that are read from it. */
final class EdgeMenTest {
    private static final int MIN = Integer.MIN_VALUE;
    private static final int MAX = Integer.MAX_VALUE;

    public static void main(String[] args) throws Exception {
        Cases.run(EdgeMenTest.class);
    }

    /** The text becomes the first man of a new object. */
    private static void fits(String text, int kind, int birthday, int wage) {
        new Run().man(text).due(kind, "manOf", 0, 0).due(birthday, "manOf", 0, 1).due(wage, "manOf", 0, 2)
                .due(0, "count", 3);
    }

    private static void fault(String text, int place) {
        new Run().fault(text, place).due(0, "count", 0).due(0, "count", 3);
    }

    private static Run full() {
        return new Run().same(60, "s0,9");
    }

    // "n (1 .. 8) bytes come, the lowest first: how many THE TAPE has. -4; -6 (n; above 14)."
    static void p02_eachOf1To8BytesComes() {
        for (int n = 1; n <= 8; n++) {
            new Run().due(n, "feed", n, 0).due(n, "count", 3);
        }
    }

    static void p02_lessThan1ByteIsRefused() {
        new Run().refused(-4, "feed", 0, 0).refused(-4, "feed", -1, 0).refused(-4, "feed", MIN, 0)
                .due(0, "count", 3);
    }

    static void p02_moreThan8BytesAreRefused() {
        new Run().refused(-6, "feed", 9, 0).refused(-6, "feed", 14, 0).refused(-6, "feed", MAX, 0)
                .due(0, "count", 3);
    }

    static void p02_theLowestByteComesFirst() {
        // Written from its highest byte on, the number is the text s65,6789 backwards.
        new Run().due(8, "feed", 8, 0x393837362C363573L).due(0, "man")
                .due(56, "manOf", 0, 1).due(6789, "manOf", 0, 2);
    }

    static void p02_bytesAboveTheNthDoNotCome() {
        new Run().due(4, "feed", 4, 0x39393939312C3173L).due(0, "man").due(1, "manOf", 0, 2);
        new Run().due(1, "feed", 1, 0x7FFFFFFFFFFFFF73L).due(3, "feed", 2, 0xFFFFFFFFFFFF2C31L)
                .due(4, "feed", 1, -256 | '7').due(0, "man").due(7, "manOf", 0, 2);
    }

    static void p02_bytesOfANegativeNumberCome() {
        new Run().due(8, "feed", 8, -1).due(14, "feed", 6, Long.MIN_VALUE).due(-20, "man");
    }

    static void p02_theTapeHas14Bytes() {
        new Run().due(8, "feed", 8, 0).due(14, "feed", 6, 0).refused(-6, "feed", 1, 0).due(14, "count", 3);
        new Run().due(8, "feed", 8, 0).refused(-6, "feed", 7, 0).due(8, "count", 3);
        new Run().due(7, "feed", 7, 0).refused(-6, "feed", 8, 0).due(14, "feed", 7, 0).refused(-6, "feed", 8, 0);
    }

    static void p02_the14thByteComesAloneAndTwoDoNot() {
        new Run().due(8, "feed", 8, 0).due(13, "feed", 5, 0).refused(-6, "feed", 2, 0)
                .due(14, "feed", 1, 0).refused(-6, "feed", 1, 0);
    }

    static void p02_refusedBytesLeaveTheTapeAsItWas() {
        // After the refusals the tape goes on where it was: s12,3 and then 4.
        new Run().feed("s12,3").refused(-4, "feed", 0, '9').refused(-6, "feed", 9, '9').due(6, "feed", 1, '4')
                .due(0, "man").due(12, "manOf", 0, 1).due(34, "manOf", 0, 2);
        new Run().feed("s365,123").refused(-6, "feed", 7, '9').due(9, "feed", 1, '4')
                .due(0, "man").due(1234, "manOf", 0, 2);
    }

    static void p02_nIsBelowOnAFullTapeToo() {
        new Run().due(8, "feed", 8, 0).due(14, "feed", 6, 0).refused(-4, "feed", 0, 0).refused(-4, "feed", -1, 0);
    }

    static void p02_above8AndAbove14AreOneRefusal() {
        new Run().due(8, "feed", 8, 0).due(14, "feed", 6, 0).refused(-6, "feed", 9, 0).due(1, "count", 16);
    }

    static void p02_afterAManTheTapeTakes14Again() {
        new Run().man("s365,9999").due(8, "feed", 8, 0).due(14, "feed", 6, 0).refused(-6, "feed", 1, 0);
    }

    static void p02_afterAFaultTheTapeTakes14Again() {
        new Run().due(8, "feed", 8, 0).due(14, "feed", 6, 0).due(-20, "man")
                .due(8, "feed", 8, 0).due(14, "feed", 6, 0).refused(-6, "feed", 1, 0);
    }

    // "THE TAPE becomes a man, and has none: his number"
    static void p03_menHaveNumbersFrom0On() {
        new Run().due(4, "feed", 4, 0x312C3173).due(0, "man").due(0, "count", 3)
                .due(4, "feed", 4, 0x312C3173).due(1, "man").due(2, "count", 0);
    }

    static void p03_aManIsReadOnce() {
        new Run().man("s1,1").due(-20, "man").due(1, "count", 0);
    }

    // "if it has a FAULT, -20 less its place (nothing is counted; THE TAPE has none, too)"
    static void p03_aFaultEmptiesTheTapeAndCountsNothing() {
        new Run().fault("s366,1", 1).due(0, "count", 3).due(0, "count", 0).man("s36,1").due(36, "manOf", 0, 1);
    }

    // "FAULT: the place of the first byte that can not stand (the end, if something lacks ..)"
    static void p03_anEmptyTapeHasItsFaultAt0() {
        fault("", 0);
    }

    static void p03_theEndIsTheFaultWhereSomethingLacks() {
        String text = "s365,1";
        for (int end = 1; end < text.length(); end++) {
            fault(text.substring(0, end), end);
        }
        fault("s0", 2);
        fault("s0,", 3);
        fault("s00", 3);
        fault("s00,", 4);
    }

    // "a letter of his KIND"; "KINDS: s SENT, a ALWAYS, n NEVER, f FLED, c CHOSEN, l LUCKY"
    static void p03_eachLetterOfAKindStands() {
        fits("s1,1", 0, 1, 1);
        fits("a1,1", 1, 1, 1);
        fits("n1,1", 2, 1, 1);
        fits("f1,1", 3, 1, 1);
        fits("c1,1", 4, 1, 1);
        fits("l1,1", 5, 1, 1);
    }

    static void p03_noOtherByteStandsForAKind() {
        for (int letter = 0; letter < 256; letter++) {
            if ("sanfcl".indexOf(letter) < 0) {
                fault((char) letter + "1,1", 0);
            }
        }
    }

    // "his birthday (a DAY, 1 to 3 digits, 0 .. 365)"
    static void p03_birthday0And365StandAnd366DoesNot() {
        fits("s0,1", 0, 0, 1);
        fits("s365,1", 0, 365, 1);
        fault("s366,1", 1);
        fault("s370,1", 1);
        fault("s400,1", 1);
        fault("s999,1", 1);
    }

    static void p03_birthdayHas1To3Digits() {
        fault("s,1", 1);
        fits("s7,1", 0, 7, 1);
        fits("s07,1", 0, 7, 1);
        fits("s007,1", 0, 7, 1);
        fault("s0007,1", 4);
        fits("s000,1", 0, 0, 1);
        fault("s0000,1", 4);
        fits("s99,1", 0, 99, 1);
    }

    static void p03_bytesBesideTheDigitsDoNotStandInABirthday() {
        fault("s/,1", 1);
        fault("s:,1", 1);
        fault("s1/,1", 2);
        fault("s1:,1", 2);
        fault("s12/,1", 3);
        fault("s12:,1", 3);
        fits("s09,1", 0, 9, 1);
        fits("s90,1", 0, 90, 1);
    }

    static void p03_aSignOrASpaceDoesNotStand() {
        fault("s-1,1", 1);
        fault("s+1,1", 1);
        fault("s 1,1", 1);
        fault("s1 ,1", 2);
        fault("s1, 1", 3);
        fault("s1,-1", 3);
    }

    // "of a birthday above 365 its first digit"
    static void p03_aBirthdayAbove365IsAFaultAtItsFirstDigitWhateverFollows() {
        fault("s366", 1);
        fault("s366,", 1);
        fault("s366x", 1);
        fault("s3660,1", 1);
        fault("s366,x", 1);
        fault("s366,12345", 1);
    }

    // "\",\""
    static void p03_onlyACommaStandsBehindABirthday() {
        fault("s1+1", 2);
        fault("s1-1", 2);
        fault("s12;1", 3);
        fault("s365.1", 4);
        fault("s1,,1", 3);
    }

    // "his WAGE (1 to 4 digits)"
    static void p03_wageHas1To4Digits() {
        fault("s1,", 3);
        fits("s1,0", 0, 1, 0);
        fits("s1,12", 0, 1, 12);
        fits("s1,123", 0, 1, 123);
        fits("s1,1234", 0, 1, 1234);
        fits("s1,0000", 0, 1, 0);
        fits("s1,0001", 0, 1, 1);
        fits("s1,9999", 0, 1, 9999);
        fault("s1,12345", 7);
        fault("s1,00000", 7);
    }

    static void p03_bytesBesideTheDigitsDoNotStandInAWage() {
        fault("s1,/", 3);
        fault("s1,:", 3);
        fault("s1,1/", 4);
        fault("s1,1:", 4);
        fault("s1,123/", 6);
        fault("s1,123:", 6);
        fits("s1,9090", 0, 1, 9090);
    }

    static void p03_nothingStandsBehindAWage() {
        fault("s1,1,", 4);
        fault("s1,1s", 4);
        fault("s1,1\0", 4);
        fault("s1,1234,", 7);
        fault("s365,9999\0", 9);
    }

    static void p03_bytesWithTheHighestBitDoNotStand() {
        fault("\u00f31,1", 0);
        fault("s\u00b1,1", 1);
        fault("s1\u00ac1", 2);
        fault("s1,\u00b1", 3);
        fault("s1,1\u00ff", 4);
    }

    // "each is read from a TEXT (14 bytes at most)"
    static void p03_theLongestManAndThe14Bytes() {
        fits("l365,9999", 5, 365, 9999);
        fault("l365,99990", 9);
        fault("l365,999900000", 9);
        fault("ssssssssssssss", 1);
        fault("s0000000000000", 4);
        fault("s1,00000000000", 7);
    }

    // "MEN have numbers from 0 on (60 at most)"; "-6 60. (Refused: THE TAPE stays.)"
    static void p03_man59IsTheLast() {
        full().due(60, "count", 0).feed("s1,1").refused(-6, "man").due(60, "count", 0);
    }

    static void p03_refusedTheTapeStays() {
        full().feed("n7,77").refused(-6, "man").due(5, "count", 3).refused(-6, "man").due(5, "count", 3)
                .due(6, "feed", 1, '7').due(6, "count", 3);
    }

    static void p03_theTapeThatStayedBecomesAManWhereThereIsRoom() {
        Run x = new Run().same(59, "s0,9");
        x.due(59, "image").man("s0,9").feed("n7,77").refused(-6, "man").due(59, "on").due(5, "count", 3)
                .due(59, "man").due(2, "manOf", 59, 0).due(7, "manOf", 59, 1).due(77, "manOf", 59, 2)
                .due(0, "count", 3);
    }

    static void p03_with60MenAnEmptyTapeIsRefusedToo() {
        full().refused(-6, "man").due(0, "count", 3);
    }

    static void p03_with60MenAFaultIsRefusedAndStays() {
        full().feed("x").refused(-6, "man").due(1, "count", 3).refused(-6, "man");
    }

    static void p03_with59MenAFaultLeavesRoom() {
        Run x = new Run().same(59, "s0,9");
        x.fault("s0,", 3).due(59, "count", 0).man("s0,9").due(60, "count", 0);
    }

    // "0 KIND (0 s, 1 a, 2 n, 3 f, 4 c, 5 l), 1 birthday, 2 WAGE. -1; -2."
    static void p12_whats0To2AreToldAndOthersNot() {
        Run x = new Run().man("l365,9999").due(5, "manOf", 0, 0).due(365, "manOf", 0, 1).due(9999, "manOf", 0, 2);
        x.refused(-2, "manOf", 0, -1).refused(-2, "manOf", 0, 3);
        x.refused(-2, "manOf", 0, MIN).refused(-2, "manOf", 0, MAX);
    }

    static void p12_firstAndLastManAreToldAndOthersNot() {
        Run x = new Run().men("s0,1", "a1,2", "c2,3");
        x.due(0, "manOf", 0, 0).due(1, "manOf", 0, 2).due(4, "manOf", 2, 0).due(3, "manOf", 2, 2);
        x.refused(-1, "manOf", -1, 0).refused(-1, "manOf", 3, 0);
        x.refused(-1, "manOf", MIN, 1).refused(-1, "manOf", MAX, 2);
    }

    static void p12_man59IsToldAnd60Not() {
        full().due(0, "manOf", 59, 0).due(9, "manOf", 59, 2).refused(-1, "manOf", 60, 0);
    }

    static void p12_withoutMenAllAreRefused() {
        new Run().refused(-1, "manOf", 0, 0).refused(-1, "manOf", 0, 2);
    }

    static void p12_nobodyIsToldBeforeWhat() {
        new Run().man("s0,1").refused(-1, "manOf", 1, 3).refused(-1, "manOf", -1, -1).due(0, "count", 12);
    }
}
