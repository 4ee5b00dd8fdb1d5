/** Promises 2, 3 and 12: the tape, its faults, and the men that are read from it. */
final class MenTest {
    public static void main(String[] args) throws Exception {
        Cases.run(MenTest.class);
    }

    static void p02_feeds() {
        GlassJar x = new GlassJar();
        Due.due("feed(8)", x.feed(8, 0x3030302C30306173L), 8);
        Due.due("feed(0)", x.feed(0, 0), -4);
        Due.due("feed(-5)", x.feed(-5, 0), -4);
        Due.due("feed(9)", x.feed(9, 0), -6);
        Due.due("feed(7) above 14", x.feed(7, 0), -6);
        Due.due("feed(6)", x.feed(6, 0), 14);
        Due.due("feed(1) above 14", x.feed(1, 0), -6);
        Due.due("feed(MAX)", x.feed(Integer.MAX_VALUE, 0), -6);
        Due.due("feed(MIN)", x.feed(Integer.MIN_VALUE, 0), -4);
        Due.due("count(3)", x.count(3), 14);
        Due.refused(x, 0, 0, 0, 3, 4);
    }

    static void p02_lowestFirst() {
        GlassJar x = new GlassJar();
        // s12,34 by its lowest bytes; the bytes above the n-th do not come.
        Due.due("feed(6)", x.feed(6, 0x783734332C323173L), 6);
        Due.due("man()", x.man(), 0);
        Due.due("birthday", x.manOf(0, 1), 12);
        Due.due("wage", x.manOf(0, 2), 34);
        Due.due("tape is empty", x.count(3), 0);
        x.feed(8, 0x393837362C363573L);
        Due.due("eight bytes", x.man(), 1);
        Due.due("birthday", x.manOf(1, 1), 56);
        Due.due("wage", x.manOf(1, 2), 6789);
    }

    static void p03_kinds() {
        GlassJar x = new GlassJar();
        String letters = "sanfcl";
        for (int kind = 0; kind < 6; kind++) {
            Due.due("man " + kind, Due.man(x, letters.charAt(kind) + "365,9999"), kind);
            Due.due("kind " + kind, x.manOf(kind, 0), kind);
        }
        Due.due("count(0)", x.count(0), 6);
        fits("s0,0", 0, 0);
        fits("s00,00", 0, 0);
        fits("s007,0070", 7, 70);
        fits("s365,1", 365, 1);
        fits("s99,999", 99, 999);
    }

    private static void fits(String text, int birthday, int wage) {
        GlassJar x = new GlassJar();
        Due.due("man() of " + text, Due.man(x, text), 0);
        Due.due("birthday of " + text, x.manOf(0, 1), birthday);
        Due.due("wage of " + text, x.manOf(0, 2), wage);
    }

    static void p03_faults() {
        fault("", 0);
        fault("x1,1", 0);
        fault("S1,1", 0);
        fault(" s1,1", 0);
        fault("1,1", 0);
        fault("s", 1);
        fault("s,1", 1);
        fault("s-1,1", 1);
        fault("s/1,1", 1);
        fault("s:1,1", 1);
        fault("s1", 2);
        fault("s12", 3);
        fault("s123", 4);
        fault("s1a,1", 2);
        fault("s12;1", 3);
        fault("s1001,1", 4);
        fault("s0000,1", 4);
        fault("s366,1", 1);
        fault("s999", 1);
        fault("s400x", 1);
        fault("s4001,1", 1);
        fault("s1,", 3);
        fault("s1,,1", 3);
        fault("s1,x", 3);
        fault("s100,", 5);
        fault("s1,1x", 4);
        fault("s1,1 ", 4);
        fault("s1,12345", 7);
        fault("s100,12345", 9);
        fault("s100,1234,", 9);
        fault("s100,123400000", 9);
    }

    private static void fault(String text, int place) {
        GlassJar x = new GlassJar();
        Due.due("man() of '" + text + "'", Due.man(x, text), -20 - place);
        Due.due("tape after '" + text + "'", x.count(3), 0);
        Due.due("men after '" + text + "'", x.count(0), 0);
        Due.refused(x, 0, 0, 0, 0, 0);
        Due.due("man() after '" + text + "'", Due.man(x, "n5,6"), 0);
    }

    static void p03_bytesAboveLetters() {
        GlassJar x = new GlassJar();
        x.feed(8, -1);
        Due.due("man() of 255s", x.man(), -20);
        x.feed(2, 0xB173);
        Due.due("man() of a digit with a high bit", x.man(), -21);
        x.feed(5, 0x00312C3173L);
        Due.due("man() with a zero byte behind", x.man(), -24);
    }

    static void p03_noRoom() {
        GlassJar x = new GlassJar();
        for (int man = 0; man < 60; man++) {
            x.feed(5, 0x39_2C_30_30_73L);
            Due.due("man " + man, x.man(), man);
        }
        x.feed(5, 0x39_2C_30_30_73L);
        Due.due("man 60", x.man(), -6);
        Due.due("the tape stays", x.count(3), 5);
        Due.due("no man more", x.count(0), 60);
        x.feed(1, 'x');
        Due.due("man 60 with a fault", x.man(), -6);
        Due.due("the tape stays", x.count(3), 6);
        Due.due("manOf(59, 2)", x.manOf(59, 2), 9);
        Due.due("manOf(60, 2)", x.manOf(60, 2), -1);
        Due.refused(x, 1, 0, 0, 0, 2);
    }

    static void p12_tellsMen() {
        GlassJar x = new GlassJar();
        Due.men(x, "l31,500", "c0,7");
        Due.due("manOf(0, 0)", x.manOf(0, 0), 5);
        Due.due("manOf(0, 1)", x.manOf(0, 1), 31);
        Due.due("manOf(0, 2)", x.manOf(0, 2), 500);
        Due.due("manOf(1, 0)", x.manOf(1, 0), 4);
        Due.due("manOf(1, 1)", x.manOf(1, 1), 0);
        Due.due("manOf(1, 2)", x.manOf(1, 2), 7);
        Due.due("manOf(2, 0)", x.manOf(2, 0), -1);
        Due.due("manOf(-1, 9)", x.manOf(-1, 9), -1);
        Due.due("manOf(0, 3)", x.manOf(0, 3), -2);
        Due.due("manOf(0, -1)", x.manOf(0, -1), -2);
        Due.refused(x, 2, 2, 0, 0, 0);
    }
}
