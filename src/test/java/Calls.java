import java.util.Set;

/** Calls of a GlassJar by their names, so that a row of arguments can stand in a table. */
final class Calls {
    private static final Set<String> LONG_REFUSALS =
            Set.of("mean", "lean", "wage", "does", "share", "serving", "truly", "group");

    private Calls() {
    }

    /** What the document lets that call answer where it refuses by a number (-1 to -6). */
    static long refusal(String name, int number) {
        return LONG_REFUSALS.contains(name) ? 4000000000000000000L - number : number;
    }

    /** Eight signs at most as feed() takes them, the lowest first. */
    static long bytes(String text) {
        long bytes = 0;
        for (int i = text.length() - 1; i >= 0; i--) {
            bytes = bytes << 8 | text.charAt(i) & 255;
        }
        return bytes;
    }

    static long call(GlassJar x, String name, long... a) {
        return switch (name) {
            case "feed" -> x.feed((int) a[0], a[1]);
            case "man" -> x.man();
            case "jar" -> x.jar((int) a[0], (int) a[1], (int) a[2], (int) a[3], (int) a[4]);
            case "pour" -> x.pour((int) a[0], a[1] != 0);
            case "number" -> x.number((int) a[0], (int) a[1]);
            case "dayOf" -> x.dayOf((int) a[0], (int) a[1]);
            case "mean" -> x.mean((int) a[0], (int) a[1], (int) a[2]);
            case "lean" -> x.lean((int) a[0]);
            case "worst" -> x.worst((int) a[0]);
            case "turned" -> x.turned((int) a[0]);
            case "manOf" -> x.manOf((int) a[0], (int) a[1]);
            case "cut" -> x.cut((int) a[0]);
            case "law" -> x.law((int) a[0], (int) a[1]);
            case "called" -> x.called((int) a[0], (int) a[1]);
            case "served" -> x.served((int) a[0], (int) a[1]);
            case "wage" -> x.wage((int) a[0], (int) a[1], (int) a[2]);
            case "does" -> x.does((int) a[0], (int) a[1], (int) a[2]);
            case "share" -> x.share((int) a[0], (int) a[1]);
            case "serving" -> x.serving((int) a[0], (int) a[1], (int) a[2]);
            case "truly" -> x.truly((int) a[0], (int) a[1], (int) a[2]);
            case "faded" -> x.faded((int) a[0], (int) a[1]);
            case "group" -> x.group((int) a[0], (int) a[1], (int) a[2], (int) a[3]);
            case "least" -> x.least((int) a[0]);
            case "shown" -> x.shown();
            case "moved" -> x.moved();
            case "cuts" -> x.cuts((int) a[0], (int) a[1]);
            case "image" -> x.image();
            case "on" -> x.on();
            case "count" -> x.count((int) a[0]);
            default -> throw new IllegalStateException(name);
        };
    }
}
