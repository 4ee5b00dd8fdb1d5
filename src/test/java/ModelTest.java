/** All promises at once: long runs of calls, drawn by a fixed row of lots, against the Model. */
final class ModelTest {
    private static final int RUNS = 120;
    private static final int CALLS = 512;
    private static final int CALLS_OF_A_MAN = 4;
    private static final String[] NAMES = {
        "jar", "pour", "number", "dayOf", "mean", "lean", "worst", "turned", "manOf", "cut", "law", "called",
        "served", "wage", "does", "share", "serving", "truly", "faded", "group", "least", "shown", "moved",
        "cuts", "image", "on", "count"};
    private static final int[] EDGES = {
        -1, 0, 1, 2, 3, 4, 5, 11, 12, 39, 40, 41, 59, 60, 61, 99, 100, 101, 365, 366, 367, 999, 1000, 2000,
        2001, 9999, 10000, Integer.MIN_VALUE, Integer.MAX_VALUE};

    private long lots = 20261118;

    public static void main(String[] args) {
        ModelTest test = new ModelTest();
        for (int run = 0; run < RUNS; run++) {
            test.run(run);
        }
        Due.end("ModelTest");
    }

    private int lot(int of) {
        lots = lots * 6364136223846793005L + 1442695040888963407L;
        return (int) ((lots >>> 33) % of);
    }

    private void run(int run) {
        GlassJar x = new GlassJar();
        Model model = new Model();
        int rarity = 2 + run % 30;
        for (int calls = 0; calls < CALLS;) {
            if (lot(rarity) == 0 && calls + CALLS_OF_A_MAN <= CALLS) {
                calls += bringMan(run, x, model);
            } else {
                String name = NAMES[lot(NAMES.length)];
                if ((name.equals("on") || name.equals("image")) && lot(3) > 0) {
                    name = "man";
                }
                compare(run, x, model, name, arguments(name));
                calls++;
            }
        }
    }

    private int bringMan(int run, GlassJar x, Model model) {
        String text = text();
        int calls = 1;
        for (int from = 0; from < text.length(); from += 8) {
            int n = Math.min(8, text.length() - from);
            long bytes = lot(2) == 0 ? 0 : -1L << (8 * n - 1) << 1;
            for (int i = n - 1; i >= 0; i--) {
                bytes |= (long) text.charAt(from + i) << (8 * i);
            }
            compare(run, x, model, "feed", new long[] {n, bytes});
            calls++;
        }
        if (lot(40) == 0) {
            compare(run, x, model, "feed", new long[] {edge(), lots});
            calls++;
        }
        compare(run, x, model, "man", new long[0]);
        return calls;
    }

    /** Mostly the text of a man; now and then a sign is changed, taken away or put in. */
    private String text() {
        StringBuilder text = new StringBuilder();
        text.append("sanfcl".charAt(lot(6))).append(lot(5) == 0 ? lot(400) : lot(366));
        text.append(',').append(lot(4) == 0 ? lot(10000) : lot(300));
        if (lot(6) == 0) {
            int place = lot(text.length());
            String signs = "0123456789,sanfclx/:\u00ff";
            char sign = signs.charAt(lot(signs.length()));
            switch (lot(4)) {
                case 0 -> text.setCharAt(place, sign);
                case 1 -> text.insert(place, sign);
                case 2 -> text.deleteCharAt(place);
                default -> text.setLength(place);
            }
        }
        return text.substring(0, Math.min(14, text.length()));
    }

    private int edge() {
        return EDGES[lot(EDGES.length)];
    }

    private int mostly(int of) {
        return lot(25) == 0 ? edge() : lot(of);
    }

    private long[] arguments(String name) {
        return switch (name) {
            case "jar" -> new long[] {mostly(2), (int) (lots >>> 20), mostly(lot(8) == 0 ? 2001 : 50),
                mostly(366), 1 + mostly(lot(2) == 0 ? 5 : 366)};
            case "pour" -> new long[] {mostly(2), lot(2)};
            case "number" -> new long[] {mostly(2), mostly(366)};
            case "dayOf" -> new long[] {mostly(2), mostly(368)};
            case "mean" -> new long[] {mostly(2), mostly(12), mostly(2)};
            case "lean", "worst", "turned" -> new long[] {mostly(2)};
            case "manOf" -> new long[] {mostly(20), mostly(3)};
            case "cut" -> new long[] {mostly(367)};
            case "law" -> new long[] {mostly(5), mostly(lot(2) == 0 ? 100 : 1000)};
            case "called", "served" -> new long[] {mostly(2), mostly(20)};
            case "wage" -> new long[] {mostly(2), mostly(20), mostly(41)};
            case "does", "serving", "truly" -> new long[] {mostly(2), mostly(41), mostly(2)};
            case "share" -> new long[] {mostly(2), mostly(2)};
            case "faded" -> new long[] {mostly(2), mostly(lot(2) == 0 ? 10000 : 200)};
            case "group" -> new long[] {mostly(2), mostly(12), mostly(41), mostly(2)};
            case "least" -> new long[] {mostly(lot(2) == 0 ? 4 : 61)};
            case "cuts" -> new long[] {mostly(2), mostly(20)};
            case "count" -> new long[] {mostly(18)};
            default -> new long[0];
        };
    }

    private static void compare(int run, GlassJar x, Model model, String name, long[] a) {
        String call = "run " + run + ": " + name + java.util.Arrays.toString(a);
        Due.due(call, Calls.call(x, name, a), model.call(name, a));
    }
}
