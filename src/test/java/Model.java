import java.math.BigInteger;
import java.util.ArrayList;
import java.util.Collections;
import java.util.HashSet;
import java.util.List;
import java.util.Set;

/** The document once more, written without regard to speed or room, to compare answers with. */
final class Model {
    private static final int[] LENGTHS = {31, 29, 31, 30, 31, 30, 31, 31, 30, 31, 30, 31};
    private static final int[] GREATEST = {99, 999, 100, 999, 99};
    private static final long NO = 4000000000000000000L;

    /** A refusal, thrown where a call finds it. */
    private static final class Refused extends RuntimeException {
        private static final long serialVersionUID = 1L;
        private final int number;

        private Refused(int number) {
            super(null, null, false, false);
            this.number = number;
        }
    }

    private record Jar(int seed, int shakes, int spread, int depth, boolean poured, List<Integer> drawn) {
    }

    private record Man(int kind, int birthday, int wage) {
    }

    private record State(List<Jar> jars, List<Man> men, int cut, int[] laws, int least) {
        private State copy() {
            return new State(new ArrayList<>(jars), new ArrayList<>(men), cut, laws.clone(), least);
        }
    }

    private String tape = "";
    private State state;
    private State image = null;
    private final long[] refusals = new long[7];

    Model() {
        Jar first = drawn(1, 100, 20, 1, true);
        state = new State(new ArrayList<>(List.of(first, first)), new ArrayList<>(), 195,
                new int[] {10, 150, 5, 80, 0}, 3);
    }

    /** What the call of that name answers; an argument that a call has not is not looked at. */
    long call(String name, long[] a) {
        boolean big = name.equals("lean") || name.equals("wage") || name.equals("mean") || name.equals("does")
                || name.equals("share") || name.equals("serving") || name.equals("truly") || name.equals("group");
        try {
            return answer(name, a);
        } catch (Refused refused) {
            refusals[-refused.number]++;
            return big ? NO - refused.number : refused.number;
        }
    }

    private long answer(String name, long[] a) {
        return switch (name) {
            case "feed" -> feed((int) a[0], a[1]);
            case "man" -> man();
            case "jar" -> jar(a);
            case "pour" -> pour(a);
            case "number" -> number(a);
            case "dayOf" -> dayOf(a);
            case "mean" -> mean(a);
            case "lean" -> lean(a);
            case "worst" -> worst(a);
            case "turned" -> turned(a);
            case "manOf" -> manOf(a);
            case "cut" -> cut(a);
            case "law" -> law(a);
            case "called" -> called(aJar(a[0]), aMan(a[1])) ? 1 : 0;
            case "served" -> served(aJar(a[0]), aMan(a[1]));
            case "wage" -> wageCall(a);
            case "does" -> part(does(jarYearPart(a, 1), (int) a[1]), a[2]);
            case "share" -> shareCall(a);
            case "serving" -> serving(a);
            case "truly" -> truly(a);
            case "faded" -> faded(a);
            case "group" -> group(a);
            case "least" -> least(a);
            case "shown" -> shown();
            case "moved" -> moved();
            case "cuts" -> cuts(a);
            case "image" -> image();
            case "on" -> on();
            case "count" -> count(a);
            default -> throw new IllegalStateException(name);
        };
    }

    private static void refuse(boolean is, int number) {
        if (is) {
            throw new Refused(number);
        }
    }

    private Jar aJar(long jar) {
        refuse(jar < 0 || jar > 1, -1);
        return state.jars.get((int) jar);
    }

    private Man aMan(long man) {
        refuse(man < 0 || man >= state.men.size(), -1);
        return state.men.get((int) man);
    }

    private static void within(long v, long least, long greatest) {
        refuse(v < least, -4);
        refuse(v > greatest, -6);
    }

    private long feed(int n, long bytes) {
        within(n, 1, Math.min(8, 14 - tape.length()));
        for (int i = 0; i < n; i++) {
            tape += (char) (bytes >> (8 * i) & 255);
        }
        return tape.length();
    }

    private long man() {
        refuse(state.men.size() == 60, -6);
        int fault = fault(tape);
        String text = tape;
        tape = "";
        if (fault >= 0) {
            return -20 - fault;
        }
        String[] numbers = text.substring(1).split(",");
        state.men.add(new Man("sanfcl".indexOf(text.charAt(0)),
                Integer.parseInt(numbers[0]), Integer.parseInt(numbers[1])));
        return state.men.size() - 1;
    }

    /** The end of the longest beginning of the text that can still become a man's. */
    private static int fault(String text) {
        int end = 0;
        while (end < text.length() && canStand(text.substring(0, end + 1))) {
            end++;
        }
        String stands = text.substring(0, end);
        if (stands.matches("[sanfcl](36[6-9]|3[7-9][0-9]|[4-9][0-9][0-9]).*")) {
            return 1;
        }
        boolean whole = end == text.length() && stands.matches("[sanfcl][0-9]{1,3},[0-9]{1,4}");
        return whole ? -1 : end;
    }

    private static boolean canStand(String start) {
        return start.matches("[sanfcl]([0-9]{0,3}|[0-9]{1,3},[0-9]{0,4})");
    }

    private static Jar drawn(int seed, int shakes, int spread, int depth, boolean poured) {
        List<Integer> row = new ArrayList<>();
        for (int day = 0; day <= 365; day++) {
            row.add(day);
        }
        int z = seed;
        for (int i = 0; i < shakes; i++) {
            z = next(z);
            int place = lot(z, 366);
            z = next(z);
            int other = place + lot(z, 2 * spread + 1) - spread;
            Collections.swap(row, place, other < 0 ? 0 : other > 365 ? 365 : other);
        }
        if (poured) {
            Collections.reverse(row);
        }
        List<Integer> drawn = new ArrayList<>();
        while (!row.isEmpty()) {
            z = next(z);
            drawn.add(row.remove(row.size() - 1 - lot(z, Math.min(depth, row.size()))));
        }
        return new Jar(seed, shakes, spread, depth, poured, drawn);
    }

    private static int next(int z) {
        return BigInteger.valueOf(z).multiply(BigInteger.valueOf(1664525))
                .add(BigInteger.valueOf(1013904223)).intValue();
    }

    private static int lot(int z, int of) {
        return (int) ((z & 0x7fffffffL) / 256 % of);
    }

    private long jar(long[] a) {
        aJar(a[0]);
        refuse(a[2] < 0 || a[3] < 0 || a[4] < 1, -4);
        refuse(a[2] > 2000 || a[3] > 365 || a[4] > 366, -6);
        boolean poured = state.jars.get((int) a[0]).poured;
        state.jars.set((int) a[0], drawn((int) a[1], (int) a[2], (int) a[3], (int) a[4], poured));
        return 1;
    }

    private long pour(long[] a) {
        Jar jar = aJar(a[0]);
        boolean is = a[1] != 0;
        if (jar.poured == is) {
            return 0;
        }
        state.jars.set((int) a[0], drawn(jar.seed, jar.shakes, jar.spread, jar.depth, is));
        return 1;
    }

    private static int numberOf(Jar jar, int day) {
        return jar.drawn.indexOf(day) + 1;
    }

    private long number(long[] a) {
        Jar jar = aJar(a[0]);
        refuse(a[1] < 0 || a[1] > 365, -1);
        return numberOf(jar, (int) a[1]);
    }

    private long dayOf(long[] a) {
        Jar jar = aJar(a[0]);
        within(a[1], 1, 366);
        return jar.drawn.get((int) a[1] - 1);
    }

    private static int monthOf(int day) {
        int month = 0;
        int rest = day;
        while (rest >= LENGTHS[month]) {
            rest -= LENGTHS[month];
            month++;
        }
        return month;
    }

    /** Above and below the line, in least terms. */
    private static BigInteger[] fraction(BigInteger above, BigInteger below) {
        BigInteger divisor = above.gcd(below).multiply(BigInteger.valueOf(below.signum()));
        return new BigInteger[] {above.divide(divisor), below.divide(divisor)};
    }

    private static BigInteger[] less(BigInteger[] one, BigInteger[] other) {
        return fraction(one[0].multiply(other[1]).subtract(other[0].multiply(one[1])), one[1].multiply(other[1]));
    }

    private static BigInteger[] meanOf(List<Long> values) {
        BigInteger sum = BigInteger.ZERO;
        for (long value : values) {
            sum = sum.add(BigInteger.valueOf(value));
        }
        return fraction(sum, BigInteger.valueOf(values.size()));
    }

    private static long part(BigInteger[] fraction, long part) {
        refuse(fraction == null, -3);
        return fraction[(int) part].longValueExact();
    }

    private static BigInteger[] monthMean(Jar jar, int month) {
        List<Long> numbers = new ArrayList<>();
        for (int day = 0; day <= 365; day++) {
            if (monthOf(day) == month) {
                numbers.add((long) numberOf(jar, day));
            }
        }
        return meanOf(numbers);
    }

    private long mean(long[] a) {
        Jar jar = aJar(a[0]);
        refuse(a[1] < 0 || a[1] > 11, -1);
        refuse(a[2] != 0 && a[2] != 1, -2);
        return part(monthMean(jar, (int) a[1]), a[2]);
    }

    private long lean(long[] a) {
        Jar jar = aJar(a[0]);
        long sum = 0;
        for (int day = 0; day <= 365; day++) {
            sum += (long) (2 * day - 365) * (2 * numberOf(jar, day) - 367);
        }
        return sum;
    }

    private long worst(long[] a) {
        Jar jar = aJar(a[0]);
        int worst = -1;
        BigInteger[] farthest = null;
        for (int month = 0; month < 12; month++) {
            BigInteger[] off = less(monthMean(jar, month), fraction(BigInteger.valueOf(367), BigInteger.TWO));
            off[0] = off[0].abs();
            if (farthest == null || less(off, farthest)[0].signum() > 0) {
                farthest = off;
                worst = month;
            }
        }
        return worst;
    }

    private long turned(long[] a) {
        Jar jar = aJar(a[0]);
        int pairs = 0;
        for (int first = 0; first < 366; first++) {
            for (int later = first + 1; later < 366; later++) {
                pairs += jar.drawn.get(later) < jar.drawn.get(first) ? 1 : 0;
            }
        }
        return pairs;
    }

    private long manOf(long[] a) {
        Man man = aMan(a[0]);
        refuse(a[1] < 0 || a[1] > 2, -2);
        return a[1] == 0 ? man.kind : a[1] == 1 ? man.birthday : man.wage;
    }

    private long cut(long[] a) {
        within(a[0], 0, 366);
        int before = state.cut;
        state = new State(state.jars, state.men, (int) a[0], state.laws, state.least);
        return before;
    }

    private long least(long[] a) {
        within(a[0], 1, 60);
        int before = state.least;
        state = new State(state.jars, state.men, state.cut, state.laws, (int) a[0]);
        return before;
    }

    private long law(long[] a) {
        refuse(a[0] < 0 || a[0] > 4, -1);
        within(a[1], 0, GREATEST[(int) a[0]]);
        int before = state.laws[(int) a[0]];
        state.laws[(int) a[0]] = (int) a[1];
        return before;
    }

    private boolean called(Jar jar, Man man) {
        return numberOf(jar, man.birthday) <= state.cut;
    }

    private int served(Jar jar, Man man) {
        boolean called = called(jar, man);
        return switch ("sanfcl".charAt(man.kind)) {
            case 's' -> called ? 1 : 0;
            case 'a' -> 1;
            case 'f' -> called ? 3 : 0;
            case 'c' -> called ? 2 : 1;
            case 'l' -> called && numberOf(jar, man.birthday) % 2 == 0 ? 1 : 0;
            default -> 0;
        };
    }

    /** The wage of a man who was called or not and served so (0 to 3). */
    private long wage(Man man, boolean called, int served, int year) {
        int percent = 100 - state.laws[2] * year;
        int left = state.laws[1] * (percent < 0 ? 0 : percent) / 100;
        long wage = man.wage + (long) state.laws[0] * year;
        wage -= served == 1 ? left : served == 2 ? left / 2 : 0;
        wage += served == 3 ? state.laws[3] : 0;
        return wage - (called ? state.laws[4] : 0);
    }

    private long wage(Jar jar, Man man, int year) {
        return wage(man, called(jar, man), served(jar, man), year);
    }

    private long wageCall(long[] a) {
        Jar jar = aJar(a[0]);
        Man man = aMan(a[1]);
        within(a[2], 0, 40);
        return wage(jar, man, (int) a[2]);
    }

    /** The jar, once jar, part (the argument behind the year) and year are known to fit. */
    private Jar jarYearPart(long[] a, int year) {
        Jar jar = aJar(a[0]);
        refuse(a[year + 1] != 0 && a[year + 1] != 1, -2);
        within(a[year], 0, 40);
        return jar;
    }

    private BigInteger[] gap(Jar jar, List<Long> values) {
        List<Long> called = new ArrayList<>();
        List<Long> others = new ArrayList<>();
        for (int man = 0; man < values.size(); man++) {
            (called(jar, state.men.get(man)) ? called : others).add(values.get(man));
        }
        return called.isEmpty() || others.isEmpty() ? null : less(meanOf(called), meanOf(others));
    }

    private BigInteger[] does(Jar jar, int year) {
        List<Long> wages = new ArrayList<>();
        for (Man man : state.men) {
            wages.add(wage(jar, man, year));
        }
        return gap(jar, wages);
    }

    private BigInteger[] share(Jar jar) {
        List<Long> parts = new ArrayList<>();
        for (Man man : state.men) {
            int served = served(jar, man);
            parts.add(served == 1 || served == 2 ? 1L : 0L);
        }
        return gap(jar, parts);
    }

    private long shareCall(long[] a) {
        Jar jar = aJar(a[0]);
        refuse(a[1] != 0 && a[1] != 1, -2);
        return part(share(jar), a[1]);
    }

    private long serving(long[] a) {
        Jar jar = jarYearPart(a, 1);
        BigInteger[] share = share(jar);
        BigInteger[] does = does(jar, (int) a[1]);
        refuse(share == null || does == null || share[0].signum() == 0, -3);
        return part(fraction(does[0].multiply(share[1]), does[1].multiply(share[0])), a[2]);
    }

    private long truly(long[] a) {
        Jar jar = jarYearPart(a, 1);
        List<Long> gains = new ArrayList<>();
        for (Man man : state.men) {
            boolean even = numberOf(jar, man.birthday) % 2 == 0;
            if (man.kind == 0 || man.kind == 5 && even) {
                gains.add(wage(man, true, 1, (int) a[1]) - wage(man, false, 0, (int) a[1]));
            }
        }
        refuse(gains.isEmpty(), -3);
        return part(meanOf(gains), a[2]);
    }

    private long faded(long[] a) {
        Jar jar = aJar(a[0]);
        within(a[1], 0, 9999);
        for (int year = 0; year <= 40; year++) {
            BigInteger[] does = does(jar, year);
            if (does != null && does[0].abs().compareTo(does[1].multiply(BigInteger.valueOf(a[1]))) <= 0) {
                return year;
            }
        }
        return -9;
    }

    private List<Man> group(int month) {
        List<Man> group = new ArrayList<>();
        for (Man man : state.men) {
            if (monthOf(man.birthday) == month) {
                group.add(man);
            }
        }
        return group;
    }

    private long group(long[] a) {
        Jar jar = aJar(a[0]);
        refuse(a[1] < 0 || a[1] > 11, -1);
        jarYearPart(new long[] {a[0], a[2], a[3]}, 1);
        List<Long> wages = new ArrayList<>();
        for (Man man : group((int) a[1])) {
            wages.add(wage(jar, man, (int) a[2]));
        }
        if (wages.size() < state.least) {
            return a[3] == 0 ? -9 : 1;
        }
        return part(meanOf(wages), a[3]);
    }

    private long shown() {
        long bits = 0;
        for (int month = 0; month < 12; month++) {
            bits += group(month).size() < state.least ? 0 : (long) Math.pow(2, month);
        }
        return bits;
    }

    private Set<Integer> calledBy(Jar jar) {
        Set<Integer> called = new HashSet<>();
        for (int man = 0; man < state.men.size(); man++) {
            if (called(jar, state.men.get(man))) {
                called.add(man);
            }
        }
        return called;
    }

    private long moved() {
        Set<Integer> first = calledBy(state.jars.get(0));
        Set<Integer> second = calledBy(state.jars.get(1));
        Set<Integer> both = new HashSet<>(first);
        both.retainAll(second);
        return first.size() + second.size() - 2 * both.size();
    }

    private long cuts(long[] a) {
        Jar jar = aJar(a[0]);
        within(a[1], 0, 60);
        for (int cut = 0; cut <= 366; cut++) {
            int called = 0;
            for (Man man : state.men) {
                called += numberOf(jar, man.birthday) <= cut ? 1 : 0;
            }
            if (called >= a[1]) {
                return cut;
            }
        }
        return -9;
    }

    private long image() {
        image = state.copy();
        return state.men.size();
    }

    private long on() {
        refuse(image == null, -3);
        state = image.copy();
        return state.men.size();
    }

    private long count(long[] a) {
        int what = (int) a[0];
        if (what == 0) {
            return state.men.size();
        }
        if (what == 1 || what == 2) {
            int found = 0;
            for (Man man : state.men) {
                int served = served(state.jars.get(what - 1), man);
                found += served == 1 || served == 2 ? 1 : 0;
            }
            return found;
        }
        if (what == 3) {
            return tape.length();
        }
        return what >= 11 && what <= 16 ? refusals[what - 10] : -9;
    }
}
