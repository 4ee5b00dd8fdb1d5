/** Two objects of one history: only one of them is refused calls, and then both must answer alike. */
final class Twins {
    private static final int[] DAYS = {0, 1, 31, 59, 60, 182, 183, 300, 364, 365};
    private static final int[] NUMBERS = {1, 2, 183, 365, 366};

    private final Run one;
    private final Run other;

    private Twins(Run one, Run other) {
        this.one = one;
        this.other = other;
    }

    static Twins fresh() {
        return new Twins(new Run(), new Run());
    }

    /** Six men, a tape that lacks its end, an image of three other men, and all else as it never is at first. */
    static Twins rich() {
        return new Twins(richRun(), richRun());
    }

    /** 60 men, a full tape, an image of 59 men. */
    static Twins full() {
        return new Twins(fullRun(), fullRun());
    }

    private static Run richRun() {
        Run x = new Run().due(1, "jar", 0, 8, 30, 5, 4).due(1, "jar", 1, 9, 60, 9, 2).due(1, "pour", 1, 0);
        x.men("s1,11", "a200,22", "n300,33").due(195, "cut", 77).due(3, "least", 2);
        for (int law = 0; law < 5; law++) {
            x.ask("law", law, 50 + law);
        }
        x.due(3, "image").due(1, "jar", 0, 20, 200, 50, 7).due(1, "jar", 1, -3, 90, 30, 3);
        x.due(1, "pour", 0, 0).due(1, "pour", 1, 1);
        x.men("f40,500", "c100,600", "l200,700").due(77, "cut", 150).due(2, "least", 1);
        for (int law = 0; law < 5; law++) {
            x.ask("law", law, 9 + 7 * law);
        }
        x.refused(-1, "number", 0, 366).refused(-2, "manOf", 0, 3).refused(-4, "cut", -1).refused(-6, "cut", 367);
        return x.feed("l36,12");
    }

    private static Run fullRun() {
        Run x = new Run();
        for (int man = 0; man < 59; man++) {
            x.man("s" + 6 * man + ",9");
        }
        return x.due(59, "image").man("a364,7").feed("s365,999900000");
    }

    Twins refused(int number, String name, long... a) {
        one.refused(number, name, a);
        return this;
    }

    private long alike(String name, long... a) {
        long due = other.ask(name, a);
        one.due(due, name, a);
        return due;
    }

    /** The last look changes them: the tape becomes a man or has a fault, and on() brings the image back. */
    void areAlike() {
        look();
        if (alike("count", 3) < 14) {
            alike("feed", 1, '5');
        }
        if (alike("count", 0) < 60) {
            alike("man");
            look();
        }
        if (hasImage()) {
            alike("on");
            look();
            alike("man");
            alike("count", 0);
        } else {
            one.refused(-3, "on");
            other.refused(-3, "on");
        }
    }

    /** Only the objects of fresh() have none, and they have no men either. */
    private boolean hasImage() {
        return alike("count", 0) > 1;
    }

    private void look() {
        for (int what = 0; what < 4; what++) {
            alike("count", what);
        }
        for (int jar = 0; jar < 2; jar++) {
            lookAtJar(jar);
        }
        lookAtMen();
        alike("cut", alike("cut", 5));
        alike("least", alike("least", 7));
        for (int law = 0; law < 5; law++) {
            alike("law", law, alike("law", law, 1));
        }
        alike("shown");
        alike("moved");
    }

    private void lookAtJar(int jar) {
        for (int day : DAYS) {
            alike("number", jar, day);
        }
        for (int number : NUMBERS) {
            alike("dayOf", jar, number);
        }
        alike("lean", jar);
        alike("cuts", jar, 1);
        // Turned over twice it tells how it was made.
        long wasPoured = 1 - alike("pour", jar, 1);
        alike("turned", jar);
        alike("pour", jar, 0);
        alike("turned", jar);
        alike("pour", jar, wasPoured);
        alike("turned", jar);
    }

    private void lookAtMen() {
        int men = (int) alike("count", 0);
        int step = men < 10 ? 1 : men / 3;
        for (int man = 0; man < men; man += step) {
            for (int what = 0; what < 3; what++) {
                alike("manOf", man, what);
            }
            alike("served", 0, man);
            alike("wage", 1, man, 2);
        }
    }
}
