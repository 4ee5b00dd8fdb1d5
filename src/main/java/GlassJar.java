import java.util.Arrays;

/** A draft lottery from a glass jar: its numbers, the men they call, and what a call does to wages. */
public final class GlassJar {
    private static final int DAYS = 366;
    private static final int MONTHS = 12;
    private static final int[] MONTH_STARTS = {0, 31, 60, 91, 121, 152, 182, 213, 244, 274, 305, 335, 366};

    private static final int MOST_SHAKES = 2000;
    private static final int MOST_SPREAD = 365;
    private static final int MOST_MEN = 60;
    private static final int MOST_BYTES = 14;
    private static final int MOST_BYTES_AT_ONCE = 8;
    private static final int LAST_YEAR = 40;
    private static final int MOST_TOLD_GAP = 9999;

    private static final int GROWS = 0;
    private static final int LOSS = 1;
    private static final int FADES = 2;
    private static final int SCHOOL = 3;
    private static final int LOW = 4;
    private static final int[] FIRST_LAWS = {10, 150, 5, 80, 0};
    private static final int[] GREATEST_LAWS = {99, 999, 100, 999, 99};

    private static final int SENT = 0;
    private static final int ALWAYS = 1;
    private static final int NEVER = 2;
    private static final int FLED = 3;
    private static final int CHOSEN = 4;
    private static final int LUCKY = 5;

    private static final int STAYED = 0;
    private static final int SERVED = 1;
    private static final int SAFE = 2;
    private static final int AWAY = 3;

    private static final int FITS = 0;
    private static final int NOBODY = -1;
    private static final int OTHER = -2;
    private static final int STATE = -3;
    private static final int BELOW = -4;
    private static final int ROOM = -6;
    private static final long LONG_REFUSAL = 4000000000000000000L;
    private static final int REFUSAL_NUMBERS = 6;

    private static final int NONE = -9;
    private static final int FAULT = -20;

    private final Tape tape = new Tape();
    private final Lottery now = new Lottery();
    private final Lottery then = new Lottery();
    private boolean imageTaken = false;
    private final int[] refusals = new int[REFUSAL_NUMBERS + 1];
    private final Ratio ratio = new Ratio();

    public GlassJar() {
    }

    public int feed(int n, long bytes) {
        int refusal = firstThatFits(false, false, n < 1, n > MOST_BYTES_AT_ONCE || !tape.hasRoomFor(n));
        if (refusal != FITS) {
            return refuse(refusal);
        }
        tape.append(n, bytes);
        return tape.length;
    }

    public int man() {
        if (now.men.size >= MOST_MEN) {
            return refuse(ROOM);
        }
        int fault = tape.read();
        tape.empty();
        if (fault >= 0) {
            return FAULT - fault;
        }
        return now.men.enrol(tape.kind, tape.birthday, tape.pay);
    }

    public int jar(int jar, int seed, int shakes, int spread, int depth) {
        int refusal = firstThatFits(!isJar(jar), false,
                shakes < 0 || spread < 0 || depth < 1,
                shakes > MOST_SHAKES || spread > MOST_SPREAD || depth > DAYS);
        if (refusal != FITS) {
            return refuse(refusal);
        }
        now.jarAt(jar).prepare(seed, shakes, spread, depth);
        return 1;
    }

    public int pour(int jar, boolean is) {
        if (!isJar(jar)) {
            return refuse(NOBODY);
        }
        return now.jarAt(jar).turnOver(is) ? 1 : 0;
    }

    public int number(int jar, int day) {
        if (!isJar(jar) || day < 0 || day >= DAYS) {
            return refuse(NOBODY);
        }
        return now.jarAt(jar).numberAt(day);
    }

    public int dayOf(int jar, int number) {
        int refusal = firstThatFits(!isJar(jar), false, number < 1, number > DAYS);
        if (refusal != FITS) {
            return refuse(refusal);
        }
        return now.jarAt(jar).dayAt(number);
    }

    public long mean(int jar, int month, int part) {
        int refusal = firstThatFits(!isJar(jar) || !isMonth(month), !isPart(part), false, false);
        if (refusal != FITS) {
            return refuseLong(refusal);
        }
        ratio.become(now.jarAt(jar).monthSum(month), monthLength(month));
        return ratio.partAt(part);
    }

    public long lean(int jar) {
        if (!isJar(jar)) {
            return refuseLong(NOBODY);
        }
        return now.jarAt(jar).leaning();
    }

    public int worst(int jar) {
        if (!isJar(jar)) {
            return refuse(NOBODY);
        }
        return now.jarAt(jar).worstMonth();
    }

    public int turned(int jar) {
        if (!isJar(jar)) {
            return refuse(NOBODY);
        }
        return now.jarAt(jar).turnedPairs();
    }

    public int manOf(int man, int what) {
        int refusal = firstThatFits(!isMan(man), what < 0 || what > 2, false, false);
        if (refusal != FITS) {
            return refuse(refusal);
        }
        if (what == 0) {
            return now.men.kindAt(man);
        }
        return what == 1 ? now.men.birthdayAt(man) : now.men.payAt(man);
    }

    public int cut(int v) {
        int refusal = firstThatFits(false, false, v < 0, v > DAYS);
        if (refusal != FITS) {
            return refuse(refusal);
        }
        int before = now.cutNumber;
        now.cutNumber = v;
        return before;
    }

    public int law(int law, int v) {
        boolean isLaw = law >= 0 && law < GREATEST_LAWS.length;
        int refusal = firstThatFits(!isLaw, false, v < 0, v > at(GREATEST_LAWS, law));
        if (refusal != FITS) {
            return refuse(refusal);
        }
        int before = at(now.laws, law);
        put(now.laws, law, v);
        return before;
    }

    public int called(int jar, int man) {
        if (!isJar(jar) || !isMan(man)) {
            return refuse(NOBODY);
        }
        return now.isCalledBy(now.jarAt(jar), man) ? 1 : 0;
    }

    public int served(int jar, int man) {
        if (!isJar(jar) || !isMan(man)) {
            return refuse(NOBODY);
        }
        return now.serviceOf(now.jarAt(jar), man);
    }

    public long wage(int jar, int man, int year) {
        int refusal = firstThatFits(!isJar(jar) || !isMan(man), false, year < 0, year > LAST_YEAR);
        if (refusal != FITS) {
            return refuseLong(refusal);
        }
        return now.wageOf(now.jarAt(jar), man, year);
    }

    public long does(int jar, int year, int part) {
        int refusal = firstThatFits(!isJar(jar), !isPart(part), year < 0, year > LAST_YEAR);
        if (refusal != FITS) {
            return refuseLong(refusal);
        }
        return partOrNone(now.findDoes(now.jarAt(jar), year, ratio), part);
    }

    public long share(int jar, int part) {
        int refusal = firstThatFits(!isJar(jar), !isPart(part), false, false);
        if (refusal != FITS) {
            return refuseLong(refusal);
        }
        return partOrNone(now.findShare(now.jarAt(jar), ratio), part);
    }

    public long serving(int jar, int year, int part) {
        int refusal = firstThatFits(!isJar(jar), !isPart(part), year < 0, year > LAST_YEAR);
        if (refusal != FITS) {
            return refuseLong(refusal);
        }
        return partOrNone(now.findServing(now.jarAt(jar), year, ratio), part);
    }

    public long truly(int jar, int year, int part) {
        int refusal = firstThatFits(!isJar(jar), !isPart(part), year < 0, year > LAST_YEAR);
        if (refusal != FITS) {
            return refuseLong(refusal);
        }
        return partOrNone(now.findTruly(now.jarAt(jar), year, ratio), part);
    }

    public int faded(int jar, int most) {
        int refusal = firstThatFits(!isJar(jar), false, most < 0, most > MOST_TOLD_GAP);
        if (refusal != FITS) {
            return refuse(refusal);
        }
        for (int year = 0; year <= LAST_YEAR; year++) {
            if (now.findDoes(now.jarAt(jar), year, ratio) && ratio.isWithin(most)) {
                return year;
            }
        }
        return NONE;
    }

    public long group(int jar, int month, int year, int part) {
        int refusal = firstThatFits(!isJar(jar) || !isMonth(month), !isPart(part), year < 0, year > LAST_YEAR);
        if (refusal != FITS) {
            return refuseLong(refusal);
        }
        if (!now.isShown(month)) {
            return part == 0 ? NONE : 1;
        }
        now.findGroup(now.jarAt(jar), month, year, ratio);
        return ratio.partAt(part);
    }

    public int least(int v) {
        int refusal = firstThatFits(false, false, v < 1, v > MOST_MEN);
        if (refusal != FITS) {
            return refuse(refusal);
        }
        int before = now.leastMen;
        now.leastMen = v;
        return before;
    }

    public int shown() {
        int bits = 0;
        for (int month = 0; month < MONTHS; month++) {
            if (now.isShown(month)) {
                bits |= 1 << month;
            }
        }
        return bits;
    }

    public int moved() {
        int men = 0;
        for (int man = 0; man < now.men.size; man++) {
            if (now.isCalledBy(now.jarAt(0), man) != now.isCalledBy(now.jarAt(1), man)) {
                men++;
            }
        }
        return men;
    }

    public int cuts(int jar, int many) {
        int refusal = firstThatFits(!isJar(jar), false, many < 0, many > MOST_MEN);
        if (refusal != FITS) {
            return refuse(refusal);
        }
        return now.leastCutFor(now.jarAt(jar), many);
    }

    public int image() {
        then.copyLottery(now);
        imageTaken = true;
        return then.men.size;
    }

    public int on() {
        if (!imageTaken) {
            return refuse(STATE);
        }
        now.copyLottery(then);
        return now.men.size;
    }

    public int count(int what) {
        if (what > 10 && what <= 10 + REFUSAL_NUMBERS) {
            return at(refusals, what - 10);
        }
        switch (what) {
            case 0:
                return now.men.size;
            case 1:
                return now.menWhoServed(now.jarAt(0));
            case 2:
                return now.menWhoServed(now.jarAt(1));
            case 3:
                return tape.length;
            default:
                return NONE;
        }
    }

    private boolean isMan(int man) {
        return man >= 0 && man < now.men.size;
    }

    private static boolean isJar(int jar) {
        return jar == 0 || jar == 1;
    }

    private static boolean isMonth(int month) {
        return month >= 0 && month < MONTHS;
    }

    private static boolean isPart(int part) {
        return part == 0 || part == 1;
    }

    /** Every call tells its refusals in this one order; -3, where a call has it, is asked after them. */
    private static int firstThatFits(boolean nobody, boolean other, boolean below, boolean room) {
        if (nobody) {
            return NOBODY;
        }
        if (other) {
            return OTHER;
        }
        if (below) {
            return BELOW;
        }
        return room ? ROOM : FITS;
    }

    private int refuse(int refusal) {
        put(refusals, -refusal, at(refusals, -refusal) + 1);
        return refusal;
    }

    private long refuseLong(int refusal) {
        return LONG_REFUSAL - refuse(refusal);
    }

    private long partOrNone(boolean found, int part) {
        return found ? ratio.partAt(part) : refuseLong(STATE);
    }

    private static int at(int[] row, int place) {
        return place >= 0 && place < row.length ? row[place] : 0;
    }

    private static void put(int[] row, int place, int value) {
        if (place >= 0 && place < row.length) {
            row[place] = value;
        }
    }

    private static void copyRow(int[] from, int[] to) {
        System.arraycopy(from, 0, to, 0, Math.min(from.length, to.length));
    }

    private static int monthLength(int month) {
        return at(MONTH_STARTS, month + 1) - at(MONTH_STARTS, month);
    }

    private static int monthOf(int day) {
        int month = 0;
        while (month < MONTHS - 1 && day >= at(MONTH_STARTS, month + 1)) {
            month++;
        }
        return month;
    }

    /** A fraction in least terms, its lower number above 0; made once and used again to spare room. */
    private static final class Ratio {
        private long above = 0;
        private long below = 1;

        private void become(long newAbove, long newBelow) {
            long divisor = commonDivisor(Math.abs(newAbove), Math.abs(newBelow));
            if (newBelow == 0 || divisor == 0) {
                above = 0;
                below = 1;
                return;
            }
            long sign = newBelow < 0 ? -1 : 1;
            above = sign * (newAbove / divisor);
            below = sign * (newBelow / divisor);
        }

        private long partAt(int part) {
            return part == 0 ? above : below;
        }

        private boolean isWithin(long most) {
            return Math.abs(above) <= most * below;
        }

        private static long commonDivisor(long one, long other) {
            long greater = one;
            long lesser = other;
            // Two longs need 92 steps at most, so the bound never cuts a division short.
            for (int step = 0; step < 100 && lesser != 0; step++) {
                long rest = greater % lesser;
                greater = lesser;
                lesser = rest;
            }
            return greater;
        }
    }

    /** Bytes that wait to become a man, and what the last reading of them found. */
    private static final class Tape {
        private static final int BIRTHDAY_DIGITS = 3;
        private static final int PAY_DIGITS = 4;

        private final int[] bytes = new int[MOST_BYTES];
        private int length = 0;
        private int kind = SENT;
        private int birthday = 0;
        private int pay = 0;

        private boolean hasRoomFor(int n) {
            return n <= MOST_BYTES - length;
        }

        private void empty() {
            length = 0;
        }

        private void append(int n, long word) {
            for (int i = 0; i < n && i < MOST_BYTES_AT_ONCE; i++) {
                put(bytes, length, (int) (word >>> (8 * i)) & 255);
                length++;
            }
        }

        /** The FAULT, or -1 if there is none; then kind, birthday and pay are what the text says. */
        private int read() {
            kind = kindOfLetter(byteAt(0));
            if (kind < 0) {
                return 0;
            }
            int birthdayEnd = endOfDigits(1, BIRTHDAY_DIGITS);
            birthday = valueOf(1, birthdayEnd);
            if (birthdayEnd == 1 || birthday >= DAYS) {
                return 1;
            }
            if (byteAt(birthdayEnd) != ',') {
                return birthdayEnd;
            }
            int payStart = birthdayEnd + 1;
            int payEnd = endOfDigits(payStart, PAY_DIGITS);
            pay = valueOf(payStart, payEnd);
            return payEnd > payStart && payEnd == length ? -1 : payEnd;
        }

        private int byteAt(int place) {
            return place >= 0 && place < length ? at(bytes, place) : -1;
        }

        private boolean isDigit(int place) {
            return byteAt(place) >= '0' && byteAt(place) <= '9';
        }

        private int endOfDigits(int start, int most) {
            int end = start;
            while (end < start + most && isDigit(end)) {
                end++;
            }
            return end;
        }

        private int valueOf(int start, int end) {
            int value = 0;
            for (int place = start; place < end; place++) {
                value = 10 * value + byteAt(place) - '0';
            }
            return value;
        }

        private static int kindOfLetter(int letter) {
            switch (letter) {
                case 's':
                    return SENT;
                case 'a':
                    return ALWAYS;
                case 'n':
                    return NEVER;
                case 'f':
                    return FLED;
                case 'c':
                    return CHOSEN;
                case 'l':
                    return LUCKY;
                default:
                    return -1;
            }
        }
    }

    /** One jar: how it is made, and the numbers that come of it. */
    private static final class Jar {
        private int seed = 1;
        private int shakes = 100;
        private int spread = 20;
        private int depth = 1;
        private boolean poured = true;
        private final int[] numberOfDay = new int[DAYS];
        private final int[] dayOfNumber = new int[DAYS + 1];
        private final int[] row = new int[DAYS];
        private final long[] seen = new long[DAYS / 64 + 1];
        private int lotState = 0;

        private Jar() {
            draw();
        }

        private void prepare(int newSeed, int newShakes, int newSpread, int newDepth) {
            seed = newSeed;
            shakes = newShakes;
            spread = newSpread;
            depth = newDepth;
            draw();
        }

        private boolean turnOver(boolean is) {
            if (poured == is) {
                return false;
            }
            poured = is;
            draw();
            return true;
        }

        private void copyJar(Jar other) {
            seed = other.seed;
            shakes = other.shakes;
            spread = other.spread;
            depth = other.depth;
            poured = other.poured;
            copyRow(other.numberOfDay, numberOfDay);
            copyRow(other.dayOfNumber, dayOfNumber);
        }

        private void draw() {
            lotState = seed;
            layDays();
            shakeRow();
            if (poured) {
                turnRow();
            }
            drawRow();
        }

        private int lot(int of) {
            lotState = lotState * 1664525 + 1013904223;
            return of < 1 ? 0 : (lotState & 0x7fffffff) / 256 % of;
        }

        private void layDays() {
            for (int day = 0; day < DAYS; day++) {
                put(row, day, day);
            }
        }

        private void shakeRow() {
            for (int shake = 0; shake < shakes; shake++) {
                int place = lot(DAYS);
                int far = lot(2 * spread + 1) - spread;
                swap(place, Math.max(0, Math.min(DAYS - 1, place + far)));
            }
        }

        private void turnRow() {
            for (int place = 0; place < DAYS / 2; place++) {
                swap(place, DAYS - 1 - place);
            }
        }

        private void drawRow() {
            for (int left = DAYS; left > 0; left--) {
                int above = lot(Math.min(depth, left));
                int place = left - 1 - above;
                int day = at(row, place);
                int number = DAYS + 1 - left;
                put(numberOfDay, day, number);
                put(dayOfNumber, number, day);
                closeGap(place, above);
            }
        }

        private void swap(int one, int other) {
            int day = at(row, one);
            put(row, one, at(row, other));
            put(row, other, day);
        }

        private void closeGap(int place, int above) {
            if (place >= 0 && above > 0 && above < DAYS - place) {
                System.arraycopy(row, place + 1, row, place, above);
            }
        }

        private int numberAt(int day) {
            return at(numberOfDay, day);
        }

        private int dayAt(int number) {
            return at(dayOfNumber, number);
        }

        private int monthSum(int month) {
            int sum = 0;
            for (int day = at(MONTH_STARTS, month); day < at(MONTH_STARTS, month + 1); day++) {
                sum += numberAt(day);
            }
            return sum;
        }

        private long leaning() {
            long sum = 0;
            for (int day = 0; day < DAYS; day++) {
                sum += (2L * day - 365) * (2L * numberAt(day) - 367);
            }
            return sum;
        }

        private int worstMonth() {
            int worst = 0;
            for (int month = 1; month < MONTHS; month++) {
                // Each distance is a fraction with 2 times the month's length below: compared across.
                if (monthDistance(month) * monthLength(worst) > monthDistance(worst) * monthLength(month)) {
                    worst = month;
                }
            }
            return worst;
        }

        private long monthDistance(int month) {
            return Math.abs(2L * monthSum(month) - 367L * monthLength(month));
        }

        /** Numbers of earlier days are kept as bits: comparing all pairs would take 67,000 steps. */
        private int turnedPairs() {
            Arrays.fill(seen, 0L);
            int pairs = 0;
            for (int day = 0; day < DAYS; day++) {
                int number = numberAt(day);
                pairs += seenAbove(number);
                markSeen(number);
            }
            return pairs;
        }

        private int seenAbove(int number) {
            int word = number >> 6;
            if (word < 0 || word >= seen.length) {
                return 0;
            }
            // Two shifts, because one by 64 would shift by 0.
            int bits = Long.bitCount(seen[word] >>> (number & 63) >>> 1);
            for (int later = word + 1; later < seen.length; later++) {
                bits += Long.bitCount(seen[later]);
            }
            return bits;
        }

        private void markSeen(int number) {
            int word = number >> 6;
            if (word >= 0 && word < seen.length) {
                seen[word] |= 1L << (number & 63);
            }
        }
    }

    /** The men, in the order in which they came. */
    private static final class Men {
        private final int[] kinds = new int[MOST_MEN];
        private final int[] birthdays = new int[MOST_MEN];
        private final int[] pays = new int[MOST_MEN];
        private int size = 0;

        private int enrol(int kind, int birthday, int pay) {
            int man = size;
            put(kinds, man, kind);
            put(birthdays, man, birthday);
            put(pays, man, pay);
            size++;
            return man;
        }

        private void copyMen(Men other) {
            copyRow(other.kinds, kinds);
            copyRow(other.birthdays, birthdays);
            copyRow(other.pays, pays);
            size = other.size;
        }

        private int kindAt(int man) {
            return at(kinds, man);
        }

        private int birthdayAt(int man) {
            return at(birthdays, man);
        }

        private int payAt(int man) {
            return at(pays, man);
        }
    }

    /** Sums over called men and over the others, and how far their means lie apart. */
    private static final class Sides {
        private long calledSum = 0;
        private long otherSum = 0;
        private int calledMen = 0;
        private int otherMen = 0;

        private void clear() {
            calledSum = 0;
            otherSum = 0;
            calledMen = 0;
            otherMen = 0;
        }

        private void enter(boolean onCalledSide, long value) {
            if (onCalledSide) {
                calledSum += value;
                calledMen++;
            } else {
                otherSum += value;
                otherMen++;
            }
        }

        private boolean findGap(Ratio into) {
            if (calledMen == 0 || otherMen == 0) {
                return false;
            }
            into.become(calledSum * otherMen - otherSum * calledMen, (long) calledMen * otherMen);
            return true;
        }
    }

    /** All that an image keeps: jars, men, cut, laws, least; and what follows from them. */
    private static final class Lottery {
        private final Jar firstJar = new Jar();
        private final Jar secondJar = new Jar();
        private final Men men = new Men();
        private final int[] laws = FIRST_LAWS.clone();
        private int cutNumber = 195;
        private int leastMen = 3;
        private final Sides sides = new Sides();
        private final Ratio shareRatio = new Ratio();

        private void copyLottery(Lottery other) {
            firstJar.copyJar(other.firstJar);
            secondJar.copyJar(other.secondJar);
            men.copyMen(other.men);
            copyRow(other.laws, laws);
            cutNumber = other.cutNumber;
            leastMen = other.leastMen;
        }

        private Jar jarAt(int jar) {
            return jar == 0 ? firstJar : secondJar;
        }

        private int numberOfMan(Jar jar, int man) {
            return jar.numberAt(men.birthdayAt(man));
        }

        private static boolean isEven(int number) {
            return number % 2 == 0;
        }

        private boolean isCalled(int number) {
            return number <= cutNumber;
        }

        private boolean isCalledBy(Jar jar, int man) {
            return isCalled(numberOfMan(jar, man));
        }

        private int serviceOf(Jar jar, int man) {
            return serviceBy(men.kindAt(man), numberOfMan(jar, man));
        }

        private int serviceBy(int kind, int number) {
            boolean wasCalled = isCalled(number);
            switch (kind) {
                case SENT:
                    return wasCalled ? SERVED : STAYED;
                case ALWAYS:
                    return SERVED;
                case FLED:
                    return wasCalled ? AWAY : STAYED;
                case CHOSEN:
                    return wasCalled ? SAFE : SERVED;
                case LUCKY:
                    return wasCalled && isEven(number) ? SERVED : STAYED;
                default:
                    return STAYED;
            }
        }

        private boolean hasServed(int kind, int number) {
            int service = serviceBy(kind, number);
            return service == SERVED || service == SAFE;
        }

        private int menWhoServed(Jar jar) {
            int found = 0;
            for (int man = 0; man < men.size; man++) {
                if (hasServed(men.kindAt(man), numberOfMan(jar, man))) {
                    found++;
                }
            }
            return found;
        }

        private int lossLeft(int year) {
            return at(laws, LOSS) * Math.max(0, 100 - at(laws, FADES) * year) / 100;
        }

        private int changeByService(int service, int year) {
            switch (service) {
                case SERVED:
                    return -lossLeft(year);
                case SAFE:
                    return -(lossLeft(year) / 2);
                case AWAY:
                    return at(laws, SCHOOL);
                default:
                    return 0;
            }
        }

        private int wageOf(Jar jar, int man, int year) {
            int number = numberOfMan(jar, man);
            int grown = men.payAt(man) + at(laws, GROWS) * year;
            int low = isCalled(number) ? at(laws, LOW) : 0;
            return grown + changeByService(serviceBy(men.kindAt(man), number), year) - low;
        }

        private boolean findDoes(Jar jar, int year, Ratio into) {
            sides.clear();
            for (int man = 0; man < men.size; man++) {
                sides.enter(isCalledBy(jar, man), wageOf(jar, man, year));
            }
            return sides.findGap(into);
        }

        private boolean findShare(Jar jar, Ratio into) {
            sides.clear();
            for (int man = 0; man < men.size; man++) {
                int number = numberOfMan(jar, man);
                sides.enter(isCalled(number), hasServed(men.kindAt(man), number) ? 1 : 0);
            }
            return sides.findGap(into);
        }

        private boolean findServing(Jar jar, int year, Ratio into) {
            if (!findShare(jar, shareRatio) || shareRatio.above == 0 || !findDoes(jar, year, into)) {
                return false;
            }
            into.become(into.above * shareRatio.below, into.below * shareRatio.above);
            return true;
        }

        /** A man's pay and growth stand in both of his wages, so only loss and low tell them apart. */
        private boolean findTruly(Jar jar, int year, Ratio into) {
            into.become(-lossLeft(year) - at(laws, LOW), 1);
            for (int man = 0; man < men.size; man++) {
                if (servesOnlyIfCalled(men.kindAt(man), numberOfMan(jar, man))) {
                    return true;
                }
            }
            return false;
        }

        private boolean servesOnlyIfCalled(int kind, int number) {
            return kind == SENT || kind == LUCKY && isEven(number);
        }

        private int menOfMonth(int month) {
            int found = 0;
            for (int man = 0; man < men.size; man++) {
                if (monthOf(men.birthdayAt(man)) == month) {
                    found++;
                }
            }
            return found;
        }

        private boolean isShown(int month) {
            return menOfMonth(month) >= leastMen;
        }

        private void findGroup(Jar jar, int month, int year, Ratio into) {
            long sum = 0;
            for (int man = 0; man < men.size; man++) {
                if (monthOf(men.birthdayAt(man)) == month) {
                    sum += wageOf(jar, man, year);
                }
            }
            into.become(sum, menOfMonth(month));
        }

        private int menWithNumberUpTo(Jar jar, int number) {
            int found = 0;
            for (int man = 0; man < men.size; man++) {
                if (numberOfMan(jar, man) <= number) {
                    found++;
                }
            }
            return found;
        }

        /** Only 0 and the men's own numbers are looked at: between them nobody more is called. */
        private int leastCutFor(Jar jar, int many) {
            if (many <= 0) {
                return 0;
            }
            int best = NONE;
            for (int man = 0; man < men.size; man++) {
                int number = numberOfMan(jar, man);
                boolean isLess = best == NONE || number < best;
                if (isLess && menWithNumberUpTo(jar, number) >= many) {
                    best = number;
                }
            }
            return best;
        }
    }
}
