import java.util.Arrays;

/**
 * Lines on a disc: worlds of shades seen through glasses and air, laws that join spots to lines,
 * sheets of observers, and guesses at what was there.
 */
public final class DiscLines {
    public static final int NONE = -1, BAD = -2, NO = -3, FULL = -4;

    private static final int BAD_PART = -1, BAD_WEIGHED = -1000;
    private static final int WORLDS = 4, SIDE = 9, CELLS = 81, SHADES = 16, GREENS = 512;
    private static final int DARKENINGS = 16, GLASSES = 4, AIRS = 5;
    private static final int MARKS = 8, LINES = 28, LINE_SETS = 1 << LINES;
    private static final int LAWS = 4, LONGEST_LAW = 40, SIGNS = 128;
    private static final int OBSERVERS = 8, WEIGHTS = 10, SHEETS = 16, NIGHTS = 1000, SHOWS = 60;
    private static final int GUESSES = 12, IMAGES = 2, LINE_COUNTS = 29;
    private static final int OF_ITS_OWN = 1 << 16;
    private static final int FIRST_WEIGHED_LINE = 10;

    private final State now = new State();
    private final State[] images = {new State(), new State()};
    private final boolean[] kept = new boolean[IMAGES];
    private final Eye eye = new Eye();
    private final int[] drawings = new int[LAWS * WORLDS];
    private long above = 0;
    private long below = 1;

    public DiscLines() {
    }

    // ---- worlds, laws

    public int shade(int world, int cell, int v) {
        if (!isOneOf(world, WORLDS) || !isOneOf(cell, CELLS) || !isOneOf(v, SHADES)) {
            return BAD;
        }
        return replace(now.worlds[world].shades, cell, v);
    }

    public int green(int world, int row, int columns) {
        if (!isOneOf(world, WORLDS) || !isOneOf(row, SIDE) || !isOneOf(columns, GREENS)) {
            return BAD;
        }
        return replace(now.worlds[world].greens, row, columns);
    }

    public int mark(int mark, int cell) {
        if (!isOneOf(mark, MARKS) || !isOneOf(cell, CELLS) || anotherLiesAt(mark, cell)) {
            return BAD;
        }
        return replace(now.marks, mark, cell);
    }

    public int seen(int world, int darkening, int glass, int air, int cell) {
        if (!isView(world, darkening, glass, air) || !isOneOf(cell, CELLS)) {
            return BAD;
        }
        eye.picture.takeWorld(now.worlds[world], darkening, glass, air);
        return eye.picture.values[cell];
    }

    public int line(int a, int b) {
        if (!isOneOf(a, MARKS) || !isOneOf(b, MARKS) || a == b) {
            return BAD;
        }
        int lesser = Math.min(a, b);
        int other = Math.max(a, b);
        int ofLesserMarks = lesser * (2 * MARKS - 1 - lesser) / 2;
        return ofLesserMarks + other - lesser - 1;
    }

    public int write(int law, int character) {
        if (!isOneOf(law, LAWS) || !isOneOf(character, SIGNS)) {
            return BAD;
        }
        return now.laws[law].append(character);
    }

    public int erase(int law) {
        if (!isOneOf(law, LAWS)) {
            return BAD;
        }
        return now.laws[law].empty();
    }

    public int fault(int law) {
        if (!isOneOf(law, LAWS)) {
            return BAD;
        }
        return now.laws[law].fault;
    }

    public int drawn(int law, int world, int darkening, int glass, int air, int shown) {
        if (!isOneOf(law, LAWS) || !isView(world, darkening, glass, air) || !isOneOf(shown, LINE_SETS)) {
            return BAD;
        }
        look(law, world, darkening, glass, air);
        return eye.linesIfShown(shown);
    }

    public int far(int law, int world, int f) {
        if (!isOneOf(law, LAWS) || !isOneOf(world, WORLDS) || !isOneOf(f, GLASSES)) {
            return BAD;
        }
        return linesFromFar(law, world, f);
    }

    public int fairest(int a, int b, int world, int what) {
        if (!isOneOf(a, LAWS) || !isOneOf(b, LAWS) || !isOneOf(world, WORLDS) || !isOneOf(what, 2)) {
            return BAD;
        }
        int fairest = 0;
        int farthest = -1;
        for (int f = 0; f < GLASSES; f++) {
            int crossedByA = Integer.bitCount(linesFromFar(a, world, f));
            int crossedByB = Integer.bitCount(linesFromFar(b, world, f));
            int apart = Math.abs(crossedByA - crossedByB);
            if (apart > farthest) {
                farthest = apart;
                fairest = f;
            }
        }
        return what == 0 ? fairest : farthest;
    }

    // ---- observers, sheets

    public int observer(int law, int weight) {
        if (!isOneOf(law, LAWS) || !isOneOf(weight, WEIGHTS)) {
            return BAD;
        }
        return now.book.addObserver(law, weight);
    }

    public int sheet(int observer, int night, int lines) {
        if (!now.book.takesSheet(observer, night) || !isOneOf(lines, LINE_SETS)) {
            return BAD;
        }
        return now.book.addSheet(observer, night, lines);
    }

    public int draw(int observer, int night, int world, int darkening, int glass, int air) {
        Book book = now.book;
        if (!book.takesSheet(observer, night) || !isView(world, darkening, glass, air)) {
            return BAD;
        }
        look(book.observerLaws[observer], world, darkening, glass, air);
        return book.addSheet(observer, night, eye.linesIfShown(book.linesShown(observer, night)));
    }

    public int show(int sheet, int observer, int night) {
        Book book = now.book;
        if (!isOneOf(sheet, book.sheetCount) || !isOneOf(observer, book.observerCount)
                || !isOneOf(night, NIGHTS) || night < book.sheetNights[sheet]) {
            return BAD;
        }
        return book.addShow(sheet, observer, night);
    }

    public int of(int sheet, int what) {
        Book book = now.book;
        if (!isOneOf(sheet, book.sheetCount) || !isOneOf(what, 4)) {
            return BAD;
        }
        switch (what) {
            case 0:
                return book.sheetLines[sheet];
            case 1:
                return book.sheetObservers[sheet];
            case 2:
                return book.sheetNights[sheet];
            default:
                return book.linesShownBefore(sheet);
        }
    }

    public int agree(int a, int b, int what) {
        if (!areTwoSheets(a, b) || !isOneOf(what, 2)) {
            return BAD;
        }
        Book book = now.book;
        int inBoth = book.sheetLines[a] & book.sheetLines[b];
        if (what == 1) {
            inBoth &= book.linesShownBefore(a) & book.linesShownBefore(b);
        }
        return Integer.bitCount(inBoth);
    }

    public int chance(int a, int b) {
        if (!areTwoSheets(a, b)) {
            return BAD;
        }
        int first = now.book.sheetLines[a];
        int second = now.book.sheetLines[b];
        int chosen = Integer.bitCount(first);
        setFraction(waysToShare(chosen, Integer.bitCount(second), Integer.bitCount(first & second)),
                choices(LINES, chosen));
        return 1;
    }

    public long part(int what) {
        if (!isOneOf(what, 2)) {
            return BAD_PART;
        }
        return what == 0 ? above : below;
    }

    public int own(int v) {
        if (!isOneOf(v, LINE_COUNTS)) {
            return BAD;
        }
        int was = now.own;
        now.own = v;
        return was;
    }

    public int took(int sheet, int what) {
        Book book = now.book;
        if (!isOneOf(sheet, book.sheetCount) || !isOneOf(what, 4)) {
            return BAD;
        }
        switch (what) {
            case 0:
                return book.mayHaveTaken(sheet, now.own);
            case 1:
                return book.leastCost(sheet, now.own);
            case 2:
                return Integer.bitCount(book.mayHaveTaken(sheet, now.own)) == 1 ? 1 : 0;
            default:
                return book.oldest(sheet, now.own);
        }
    }

    public long ways() {
        long product = 1;
        for (int s = 0; s < now.book.sheetCount; s++) {
            product *= Integer.bitCount(now.book.mayHaveTaken(s, now.own));
        }
        return product;
    }

    // ---- guesses

    public int guess(int world, int law, int glass) {
        if (!isOneOf(world, WORLDS) || !isOneOf(law, LAWS) || !isOneOf(glass, GLASSES)) {
            return BAD;
        }
        return now.guesses.add(world, law, glass);
    }

    public int error(int v) {
        if (!isOneOf(v, LINE_COUNTS)) {
            return BAD;
        }
        int was = now.error;
        now.error = v;
        return was;
    }

    public int allows(int guess, int sheet) {
        if (!isOneOf(guess, now.guesses.size) || !isOneOf(sheet, now.book.sheetCount)) {
            return BAD;
        }
        return allowsAll(guess, 1 << sheet) ? 1 : 0;
    }

    public int mayBe(int sheets) {
        if (!areSheets(sheets)) {
            return BAD;
        }
        return guessesAllowing(sheets);
    }

    public int there(int sheets, int what) {
        if (!areSheets(sheets) || !isOneOf(what, 2)) {
            return BAD;
        }
        int worlds = now.guesses.worldsIn(guessesAllowing(sheets));
        if (worlds == 0) {
            return NONE;
        }
        int inAll = LINE_SETS - 1;
        int inSome = 0;
        for (int w = 0; w < WORLDS; w++) {
            if (has(worlds, w)) {
                eye.picture.takeWorld(now.worlds[w], 0, 0, 0);
                int lines = eye.linesOf(now.laws[0], now.marks, 0);
                inAll &= lines;
                inSome |= lines;
            }
        }
        return what == 0 ? inAll : inSome;
    }

    public int parts(int sheets, int what) {
        if (!areSheets(sheets) || !isOneOf(what, 2)) {
            return BAD;
        }
        int worlds = now.guesses.worldsIn(guessesAllowing(sheets));
        if (worlds == 0) {
            return NONE;
        }
        int pair = 0;
        int most = 0;
        for (int glass = 0; glass < GLASSES; glass++) {
            drawByAllLaws(worlds, glass);
            for (int law = 0; law < LAWS; law++) {
                int unlike = countUnlike(worlds, law);
                if (unlike > most) {
                    most = unlike;
                    pair = 10 * glass + law;
                }
            }
        }
        return what == 0 ? pair : most;
    }

    public int weighed(int what) {
        if (isOneOf(what, 2)) {
            return now.book.linesWeighedAbove(what == 1);
        }
        // what - 10 could wrap, so the lower end is looked at first
        if (what < FIRST_WEIGHED_LINE || !isOneOf(what - FIRST_WEIGHED_LINE, LINES)) {
            return BAD_WEIGHED;
        }
        return now.book.weightOfLine(what - FIRST_WEIGHED_LINE);
    }

    public int season(int first, int second) {
        if (!areSheets(first) || !areSheets(second)
                || first == 0 || second == 0 || (first & second) != 0) {
            return BAD;
        }
        return now.book.linesInAll(first) & ~now.book.linesInSome(second);
    }

    public int image(int i) {
        if (!isOneOf(i, IMAGES)) {
            return BAD;
        }
        images[i].copy(now);
        kept[i] = true;
        return 1;
    }

    public int from(int i) {
        if (!isOneOf(i, IMAGES)) {
            return BAD;
        }
        if (!kept[i]) {
            return NO;
        }
        now.copy(images[i]);
        return 1;
    }

    public int count(int what) {
        switch (what) {
            case 0:
                return now.book.observerCount;
            case 1:
                return now.book.sheetCount;
            case 2:
                return now.book.showCount;
            case 3:
                return now.guesses.size;
            default:
                return BAD;
        }
    }

    public long digest() {
        return mix(mix(now.mixInto(431), above), below);
    }

    // ---- what the calls share

    private static boolean isOneOf(int v, int howMany) {
        return v >= 0 && v < howMany;
    }

    private static boolean has(int bits, int i) {
        return (bits >> i & 1) != 0;
    }

    private static int replace(int[] row, int i, int v) {
        if (!isOneOf(i, row.length)) {
            return BAD;
        }
        int was = row[i];
        row[i] = v;
        return was;
    }

    private static long mix(long h, long v) {
        return 31 * h + v;
    }

    private static long mixRow(long h, int[] row, int size) {
        long mixed = h;
        for (int i = 0; i < size && i < row.length; i++) {
            mixed = mix(mixed, row[i]);
        }
        return mixed;
    }

    private static void copyRow(int[] source, int[] target) {
        System.arraycopy(source, 0, target, 0, Math.min(source.length, target.length));
    }

    private static boolean isView(int world, int darkening, int glass, int air) {
        return isOneOf(world, WORLDS) && isOneOf(darkening, DARKENINGS)
                && isOneOf(glass, GLASSES) && isOneOf(air, AIRS);
    }

    private boolean anotherLiesAt(int mark, int cell) {
        for (int m = 0; m < MARKS; m++) {
            if (m != mark && now.marks[m] == cell) {
                return true;
            }
        }
        return false;
    }

    private boolean areTwoSheets(int a, int b) {
        return isOneOf(a, now.book.sheetCount) && isOneOf(b, now.book.sheetCount) && a != b;
    }

    private boolean areSheets(int bits) {
        return isOneOf(bits, 1 << now.book.sheetCount);
    }

    private void look(int law, int world, int darkening, int glass, int air) {
        eye.picture.takeWorld(now.worlds[world], darkening, glass, air);
        eye.look(now.laws[law], now.marks);
    }

    private int linesFromFar(int law, int world, int f) {
        eye.picture.takeSpots(now.worlds[world], now.marks, f);
        return eye.linesOf(now.laws[law], now.marks, 0);
    }

    private int guessesAllowing(int sheets) {
        int allowing = 0;
        for (int g = 0; g < now.guesses.size; g++) {
            if (allowsAll(g, sheets)) {
                allowing |= 1 << g;
            }
        }
        return allowing;
    }

    private boolean allowsAll(int guess, int sheets) {
        Guesses guesses = now.guesses;
        Book book = now.book;
        look(guesses.laws[guess], guesses.worlds[guess], 0, guesses.glasses[guess], 0);
        for (int s = 0; s < book.sheetCount; s++) {
            if (has(sheets, s)) {
                int unlike = eye.linesIfShown(book.linesShownBefore(s)) ^ book.sheetLines[s];
                if (Integer.bitCount(unlike) > now.error) {
                    return false;
                }
            }
        }
        return true;
    }

    private void drawByAllLaws(int worlds, int glass) {
        for (int w = 0; w < WORLDS; w++) {
            if (has(worlds, w)) {
                eye.picture.takeWorld(now.worlds[w], 0, glass, 0);
                for (int law = 0; law < LAWS; law++) {
                    drawings[WORLDS * law + w] = eye.linesOf(now.laws[law], now.marks, 0);
                }
            }
        }
    }

    private int countUnlike(int worlds, int law) {
        int unlike = 0;
        for (int w = 0; w < WORLDS; w++) {
            if (has(worlds, w) && !isDrawnAhead(worlds, law, w)) {
                unlike++;
            }
        }
        return unlike;
    }

    private boolean isDrawnAhead(int worlds, int law, int world) {
        for (int w = 0; w < world; w++) {
            if (has(worlds, w) && drawings[WORLDS * law + w] == drawings[WORLDS * law + world]) {
                return true;
            }
        }
        return false;
    }

    private static long waysToShare(int chosen, int inSecond, int atLeast) {
        long sharing = 0;
        for (int i = atLeast; i <= chosen && i <= inSecond; i++) {
            sharing += choices(inSecond, i) * choices(LINES - inSecond, chosen - i);
        }
        return sharing;
    }

    private static long choices(int of, int taken) {
        if (taken < 0 || taken > of) {
            return 0;
        }
        long ways = 1;
        for (int i = 1; i <= taken; i++) {
            ways = ways * (of - taken + i) / i;
        }
        return ways;
    }

    private void setFraction(long over, long under) {
        long common = over;
        long rest = under;
        // Euclid's steps on numbers below 2 to the 63 are fewer than 100
        for (int i = 0; i < 100 && rest != 0; i++) {
            long next = common % rest;
            common = rest;
            rest = next;
        }
        if (common != 0) {
            above = over / common;
            below = under / common;
        }
    }

    /** The disc of one world. */
    private static final class World {
        final int[] shades = new int[CELLS];
        final int[] greens = new int[SIDE];

        int darkened(int cell, int darkening) {
            boolean isGreen = has(greens[cell / SIDE], cell % SIDE);
            return isGreen ? Math.min(SHADES - 1, shades[cell] + darkening) : shades[cell];
        }

        void copy(World other) {
            copyRow(other.shades, shades);
            copyRow(other.greens, greens);
        }

        long mixInto(long h) {
            return mixRow(mixRow(h, shades, CELLS), greens, SIDE);
        }
    }

    /** The text of a law, and what it says: its fault, or the steps that work it, each behind what it joins. */
    private static final class Law {
        private static final int VALUE = 0, BOTH = 1, HELD = 2, SUM = 3, TERM = 4, UNIT = 5;
        private static final int CAN_NOT_STAND = 1, SEVENTH_DIGIT = 2, NINTH_OPEN = 3;
        private static final int MOST_DIGITS = 6, MOST_OPEN = 8, END = -1;

        private final int[] signs = new int[LONGEST_LAW];
        private int length;
        int fault = CAN_NOT_STAND;
        final int[] steps = new int[LONGEST_LAW];
        int stepCount;
        boolean asksShown;
        private int place;

        int append(int character) {
            if (length >= LONGEST_LAW) {
                return FULL;
            }
            signs[length] = character;
            length++;
            read();
            return length;
        }

        int empty() {
            int was = length;
            length = 0;
            read();
            return was;
        }

        void copy(Law other) {
            copyRow(other.signs, signs);
            length = other.length;
            fault = other.fault;
            copyRow(other.steps, steps);
            stepCount = other.stepCount;
            asksShown = other.asksShown;
        }

        long mixInto(long h) {
            return mixRow(mix(h, length), signs, length);
        }

        private void read() {
            fault = NONE;
            stepCount = 0;
            asksShown = false;
            place = 0;
            readLevel(VALUE, 0);
            if (nextSign() != END) {
                noteFault(place, CAN_NOT_STAND);
            }
        }

        /** The first fault stays: what is read behind it means nothing. */
        private void noteFault(int at, int kind) {
            if (fault == NONE) {
                fault = 10 * at + kind;
            }
        }

        private void addStep(int step) {
            if (stepCount < LONGEST_LAW) {
                steps[stepCount] = step;
                stepCount++;
            }
        }

        private int nextSign() {
            while (place < length && signs[place] == ' ') {
                place++;
            }
            return place < length ? signs[place] : END;
        }

        private void readLevel(int level, int open) {
            if (level >= UNIT) {
                readUnit(open);
                return;
            }
            readLevel(level + 1, open);
            int mostJoined = level == HELD ? 1 : LONGEST_LAW;
            for (int i = 0; i < mostJoined && fault == NONE; i++) {
                int step = Step.joiningOf(nextSign());
                if (step == Step.NOTHING || levelOf(step) != level) {
                    return;
                }
                place++;
                readLevel(level + 1, open);
                addStep(step);
            }
        }

        private static int levelOf(int step) {
            switch (step) {
                case Step.OR:
                    return VALUE;
                case Step.AND:
                    return BOTH;
                case Step.PLUS:
                case Step.MINUS:
                    return SUM;
                case Step.TIMES:
                case Step.BY:
                    return TERM;
                default:
                    return HELD;
            }
        }

        /** What stands ahead of a unit is worked behind it, the nearest first. */
        private void readUnit(int open) {
            int first = place;
            while (place < length && isPrefix(signs[place])) {
                place++;
            }
            int behind = place;
            readPlainUnit(open);
            for (int i = behind - 1; i >= first; i--) {
                if (signs[i] == '!') {
                    addStep(Step.NOT);
                } else if (signs[i] == '-') {
                    addStep(Step.NEGATED);
                }
            }
        }

        private static boolean isPrefix(int sign) {
            return sign == '!' || sign == '-' || sign == ' ';
        }

        private static boolean isDigit(int sign) {
            return sign >= '0' && sign <= '9';
        }

        private void readPlainUnit(int open) {
            int sign = nextSign();
            int unit = Step.unitOf(sign);
            if (unit != Step.NOTHING) {
                place++;
                asksShown = asksShown || unit == Step.WAS_SHOWN;
                addStep(unit);
            } else if (isDigit(sign)) {
                readDigits();
            } else if (sign == '(') {
                readInside(open);
            } else {
                noteFault(place, CAN_NOT_STAND);
            }
        }

        private void readDigits() {
            int first = place;
            int number = 0;
            while (place < length && isDigit(signs[place])) {
                if (place - first < MOST_DIGITS) {
                    number = 10 * number + signs[place] - '0';
                }
                place++;
            }
            if (place - first > MOST_DIGITS) {
                noteFault(first, SEVENTH_DIGIT);
            }
            addStep(number);
        }

        private void readInside(int open) {
            if (open >= MOST_OPEN) {
                noteFault(place, NINTH_OPEN);
                return;
            }
            place++;
            readLevel(VALUE, open + 1);
            if (nextSign() == ')') {
                place++;
            } else {
                noteFault(place, CAN_NOT_STAND);
            }
        }
    }

    /** Observers, their sheets, and which sheet was shown to whom. */
    private static final class Book {
        final int[] observerLaws = new int[OBSERVERS];
        final int[] observerWeights = new int[OBSERVERS];
        int observerCount;
        final int[] sheetObservers = new int[SHEETS];
        final int[] sheetNights = new int[SHEETS];
        final int[] sheetLines = new int[SHEETS];
        int sheetCount;
        final int[] shownSheets = new int[SHOWS];
        final int[] shownObservers = new int[SHOWS];
        final int[] shownNights = new int[SHOWS];
        int showCount;

        int addObserver(int law, int weight) {
            if (!isOneOf(observerCount, OBSERVERS)) {
                return FULL;
            }
            observerLaws[observerCount] = law;
            observerWeights[observerCount] = weight;
            observerCount++;
            return observerCount - 1;
        }

        boolean takesSheet(int observer, int night) {
            return isOneOf(observer, observerCount) && isOneOf(night, NIGHTS)
                    && (sheetCount == 0 || night >= sheetNights[sheetCount - 1]);
        }

        int addSheet(int observer, int night, int lines) {
            if (!isOneOf(sheetCount, SHEETS)) {
                return FULL;
            }
            sheetObservers[sheetCount] = observer;
            sheetNights[sheetCount] = night;
            sheetLines[sheetCount] = lines;
            sheetCount++;
            return sheetCount - 1;
        }

        int addShow(int sheet, int observer, int night) {
            if (!isOneOf(showCount, SHOWS)) {
                return FULL;
            }
            shownSheets[showCount] = sheet;
            shownObservers[showCount] = observer;
            shownNights[showCount] = night;
            showCount++;
            return showCount;
        }

        private int sheetsShown(int observer, int night) {
            int sheets = 0;
            for (int i = 0; i < showCount; i++) {
                if (shownObservers[i] == observer && shownNights[i] <= night) {
                    sheets |= 1 << shownSheets[i];
                }
            }
            return sheets;
        }

        int linesShown(int observer, int night) {
            return linesInSome(sheetsShown(observer, night));
        }

        int linesShownBefore(int sheet) {
            return linesShown(sheetObservers[sheet], sheetNights[sheet]);
        }

        int linesInSome(int sheets) {
            int lines = 0;
            for (int s = 0; s < sheetCount; s++) {
                if (has(sheets, s)) {
                    lines |= sheetLines[s];
                }
            }
            return lines;
        }

        int linesInAll(int sheets) {
            int lines = LINE_SETS - 1;
            for (int s = 0; s < sheetCount; s++) {
                if (has(sheets, s)) {
                    lines &= sheetLines[s];
                }
            }
            return lines;
        }

        private int costOfOwn(int sheet, int own) {
            return Integer.bitCount(sheetLines[sheet]) + own;
        }

        private int costOfTaking(int sheet, int source) {
            return Integer.bitCount(sheetLines[sheet] ^ sheetLines[source]);
        }

        int leastCost(int sheet, int own) {
            int sources = sheetsShown(sheetObservers[sheet], sheetNights[sheet]);
            int least = costOfOwn(sheet, own);
            for (int s = 0; s < sheet; s++) {
                if (has(sources, s)) {
                    least = Math.min(least, costOfTaking(sheet, s));
                }
            }
            return least;
        }

        int mayHaveTaken(int sheet, int own) {
            int sources = sheetsShown(sheetObservers[sheet], sheetNights[sheet]);
            int least = leastCost(sheet, own);
            int taken = costOfOwn(sheet, own) == least ? OF_ITS_OWN : 0;
            for (int s = 0; s < sheet; s++) {
                if (has(sources, s) && costOfTaking(sheet, s) == least) {
                    taken |= 1 << s;
                }
            }
            return taken;
        }

        int oldest(int sheet, int own) {
            int at = sheet;
            for (int i = 0; i < SHEETS; i++) {
                int sources = mayHaveTaken(at, own);
                if ((sources & OF_ITS_OWN) != 0) {
                    return at;
                }
                at = leastOf(sources, at);
            }
            return at;
        }

        private static int leastOf(int sources, int limit) {
            for (int s = 0; s < limit; s++) {
                if (has(sources, s)) {
                    return s;
                }
            }
            return limit;
        }

        private int weightOfSheet(int sheet) {
            return observerWeights[sheetObservers[sheet]];
        }

        private int weightOfAllSheets() {
            int sum = 0;
            for (int s = 0; s < sheetCount; s++) {
                sum += weightOfSheet(s);
            }
            return sum;
        }

        int weightOfLine(int line) {
            int sum = 0;
            for (int s = 0; s < sheetCount; s++) {
                sum += has(sheetLines[s], line) ? weightOfSheet(s) : -weightOfSheet(s);
            }
            return sum;
        }

        int linesWeighedAbove(boolean surelyAlone) {
            int all = weightOfAllSheets();
            int lines = 0;
            for (int line = 0; line < LINES; line++) {
                int weight = weightOfLine(line);
                // twice the weight, since half of an odd sum is not to be cut
                if (weight > 0 && (!surelyAlone || 2 * weight >= all)) {
                    lines |= 1 << line;
                }
            }
            return lines;
        }

        void copy(Book other) {
            copyRow(other.observerLaws, observerLaws);
            copyRow(other.observerWeights, observerWeights);
            observerCount = other.observerCount;
            copyRow(other.sheetObservers, sheetObservers);
            copyRow(other.sheetNights, sheetNights);
            copyRow(other.sheetLines, sheetLines);
            sheetCount = other.sheetCount;
            copyRow(other.shownSheets, shownSheets);
            copyRow(other.shownObservers, shownObservers);
            copyRow(other.shownNights, shownNights);
            showCount = other.showCount;
        }

        long mixInto(long h) {
            long mixed = h;
            for (int i = 0; i < observerCount; i++) {
                mixed = mix(mix(mixed, observerLaws[i]), observerWeights[i]);
            }
            for (int s = 0; s < sheetCount; s++) {
                mixed = mix(mix(mix(mixed, sheetLines[s]), sheetObservers[s]), sheetNights[s]);
            }
            for (int i = 0; i < showCount; i++) {
                mixed = mix(mix(mix(mixed, shownSheets[i]), shownObservers[i]), shownNights[i]);
            }
            return mixed;
        }
    }

    /** Guesses at the world, the law and the glass behind sheets. */
    private static final class Guesses {
        final int[] worlds = new int[GUESSES];
        final int[] laws = new int[GUESSES];
        final int[] glasses = new int[GUESSES];
        int size;

        int add(int world, int law, int glass) {
            if (!isOneOf(size, GUESSES)) {
                return FULL;
            }
            worlds[size] = world;
            laws[size] = law;
            glasses[size] = glass;
            size++;
            return size - 1;
        }

        int worldsIn(int guesses) {
            int found = 0;
            for (int g = 0; g < size; g++) {
                if (has(guesses, g)) {
                    found |= 1 << worlds[g];
                }
            }
            return found;
        }

        void copy(Guesses other) {
            copyRow(other.worlds, worlds);
            copyRow(other.laws, laws);
            copyRow(other.glasses, glasses);
            size = other.size;
        }

        long mixInto(long h) {
            long mixed = h;
            for (int g = 0; g < size; g++) {
                mixed = mix(mix(mix(mixed, worlds[g]), laws[g]), glasses[g]);
            }
            return mixed;
        }
    }

    /** All that an image keeps. */
    private static final class State {
        final World[] worlds = {new World(), new World(), new World(), new World()};
        final int[] marks = {0, 10, 20, 30, 40, 50, 60, 70};
        final Law[] laws = {new Law(), new Law(), new Law(), new Law()};
        final Book book = new Book();
        final Guesses guesses = new Guesses();
        int own = 3;
        int error = 2;

        void copy(State other) {
            for (int w = 0; w < WORLDS; w++) {
                worlds[w].copy(other.worlds[w]);
            }
            copyRow(other.marks, marks);
            for (int i = 0; i < LAWS; i++) {
                laws[i].copy(other.laws[i]);
            }
            book.copy(other.book);
            guesses.copy(other.guesses);
            own = other.own;
            error = other.error;
        }

        long mixInto(long h) {
            long mixed = mix(mix(h, book.observerCount), book.sheetCount);
            mixed = mix(mix(mixed, book.showCount), guesses.size);
            for (int w = 0; w < WORLDS; w++) {
                mixed = worlds[w].mixInto(mixed);
            }
            mixed = mixRow(mixed, marks, MARKS);
            for (int i = 0; i < LAWS; i++) {
                mixed = laws[i].mixInto(mixed);
            }
            mixed = mix(book.mixInto(mixed), own);
            return mix(guesses.mixInto(mixed), error);
        }
    }

    /** A disc as it is seen through a glass and air. */
    private static final class Picture {
        private static final int SUMS = SIDE + 1;
        private static final int[] ROW_STEPS = {0, -1, 1, 0, 0};
        private static final int[] COLUMN_STEPS = {0, 0, 0, -1, 1};

        private final int[] shades = new int[CELLS];
        // at (r, c) the sum of all shades above row r and left of column c: a block then costs four looks
        private final int[] sums = new int[SUMS * SUMS];
        final int[] values = new int[CELLS];
        int glass;

        void takeWorld(World world, int darkening, int glassUsed, int air) {
            for (int cell = 0; cell < CELLS; cell++) {
                shades[cell] = world.darkened(cell, darkening);
            }
            glass = glassUsed;
            addUp();
            if (isOneOf(air, AIRS)) {
                blur(ROW_STEPS[air], COLUMN_STEPS[air]);
            }
        }

        void takeSpots(World world, int[] marks, int f) {
            Arrays.fill(shades, 0);
            for (int m = 0; m < marks.length; m++) {
                if (isOneOf(marks[m], CELLS)) {
                    shades[marks[m]] = world.shades[marks[m]];
                }
            }
            glass = f;
            addUp();
            blur(0, 0);
        }

        private void addUp() {
            for (int row = 0; row < SIDE; row++) {
                int rowSum = 0;
                for (int column = 0; column < SIDE; column++) {
                    rowSum += shades[SIDE * row + column];
                    int place = SUMS * (row + 1) + column + 1;
                    sums[place] = sums[place - SUMS] + rowSum;
                }
            }
        }

        private void blur(int rowStep, int columnStep) {
            for (int row = 0; row < SIDE; row++) {
                int seenRow = isOneOf(row + rowStep, SIDE) ? row + rowStep : row;
                for (int column = 0; column < SIDE; column++) {
                    int seenColumn = isOneOf(column + columnStep, SIDE) ? column + columnStep : column;
                    values[SIDE * row + column] = blurredAt(seenRow, seenColumn);
                }
            }
        }

        private int blurredAt(int row, int column) {
            int top = Math.max(0, row - glass);
            int bottom = Math.min(SIDE, row + glass + 1);
            int left = Math.max(0, column - glass);
            int right = Math.min(SIDE, column + glass + 1);
            int cells = (bottom - top) * (right - left);
            int sum = sums[SUMS * bottom + right] - sums[SUMS * top + right]
                    - sums[SUMS * bottom + left] + sums[SUMS * top + left];
            return cells > 0 ? sum / cells : 0;
        }
    }

    /** What the steps of a law are: numbers stand for themselves, all else lies below 0. */
    private static final class Step {
        static final int NOTHING = 0;
        static final int LESSER_MARK = -1, OTHER_MARK = -2, DISTANCE = -3, MIDDLE = -4, WAS_SHOWN = -5, GLASS = -6;
        static final int OR = -11, AND = -12, LESS = -13, MORE = -14, LIKE = -15;
        static final int PLUS = -16, MINUS = -17, TIMES = -18, BY = -19;
        static final int NOT = -21, NEGATED = -22;

        static int unitOf(int sign) {
            switch (sign) {
                case 'a':
                    return LESSER_MARK;
                case 'b':
                    return OTHER_MARK;
                case 'd':
                    return DISTANCE;
                case 'm':
                    return MIDDLE;
                case 'k':
                    return WAS_SHOWN;
                case 'g':
                    return GLASS;
                default:
                    return NOTHING;
            }
        }

        static int joiningOf(int sign) {
            switch (sign) {
                case '|':
                    return OR;
                case '&':
                    return AND;
                case '<':
                    return LESS;
                case '>':
                    return MORE;
                case '=':
                    return LIKE;
                case '+':
                    return PLUS;
                case '-':
                    return MINUS;
                case '*':
                    return TIMES;
                case '/':
                    return BY;
                default:
                    return NOTHING;
            }
        }

        static long joined(int step, long x, long y) {
            switch (step) {
                case OR:
                    return x != 0 || y != 0 ? 1 : 0;
                case AND:
                    return x != 0 && y != 0 ? 1 : 0;
                case LESS:
                    return x < y ? 1 : 0;
                case MORE:
                    return x > y ? 1 : 0;
                case LIKE:
                    return x == y ? 1 : 0;
                case PLUS:
                    return x + y;
                case MINUS:
                    return x - y;
                case TIMES:
                    return x * y;
                default:
                    return y == 0 ? 0 : x / y;
            }
        }

        static long turned(int step, long x) {
            if (step == NOT) {
                return x == 0 ? 1 : 0;
            }
            return -x;
        }
    }

    /** Draws by a law what it tells of a picture. */
    private static final class Eye {
        private static final int UNITS = 7;

        final Picture picture = new Picture();
        // what a unit is stands at its step less its sign
        private final long[] units = new long[UNITS];
        private final long[] stack = new long[LONGEST_LAW];
        private int linesOfUnshown;
        private int linesOfShown;

        /** A line's truth hangs on what was shown by its own bit alone, so two drawings serve all sets. */
        void look(Law law, int[] marks) {
            linesOfUnshown = linesOf(law, marks, 0);
            linesOfShown = law.asksShown ? linesOf(law, marks, 1) : linesOfUnshown;
        }

        int linesIfShown(int shown) {
            return linesOfUnshown & ~shown | linesOfShown & shown;
        }

        int linesOf(Law law, int[] marks, int wasShown) {
            if (law.fault != NONE) {
                return 0;
            }
            units[-Step.WAS_SHOWN] = wasShown;
            units[-Step.GLASS] = picture.glass;
            int lines = 0;
            int line = 0;
            for (int a = 0; a < marks.length; a++) {
                for (int b = a + 1; b < marks.length; b++) {
                    aimAt(marks[a], marks[b]);
                    if (work(law) != 0) {
                        lines |= 1 << line;
                    }
                    line++;
                }
            }
            return lines;
        }

        private void aimAt(int lesser, int other) {
            int rows = lesser / SIDE + other / SIDE;
            int columns = lesser % SIDE + other % SIDE;
            int rowsApart = Math.abs(lesser / SIDE - other / SIDE);
            int columnsApart = Math.abs(lesser % SIDE - other % SIDE);
            int middle = SIDE * (rows / 2) + columns / 2;
            if (isOneOf(lesser, CELLS) && isOneOf(other, CELLS) && isOneOf(middle, CELLS)) {
                units[-Step.LESSER_MARK] = picture.values[lesser];
                units[-Step.OTHER_MARK] = picture.values[other];
                units[-Step.DISTANCE] = Math.max(rowsApart, columnsApart);
                units[-Step.MIDDLE] = picture.values[middle];
            }
        }

        private long work(Law law) {
            int size = 0;
            for (int i = 0; i < law.stepCount && i < LONGEST_LAW; i++) {
                int step = law.steps[i];
                if (step > Step.OR) {
                    if (size < LONGEST_LAW) {
                        stack[size] = step >= 0 ? step : unitAt(-step);
                        size++;
                    }
                } else if (step > Step.NOT) {
                    if (size > 1) {
                        size--;
                        stack[size - 1] = Step.joined(step, stack[size - 1], stack[size]);
                    }
                } else if (size > 0) {
                    stack[size - 1] = Step.turned(step, stack[size - 1]);
                }
            }
            return size > 0 ? stack[size - 1] : 0;
        }

        private long unitAt(int i) {
            return i < UNITS ? units[i] : 0;
        }
    }
}
