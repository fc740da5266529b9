import java.util.Arrays;
import java.util.function.Supplier;

/**
 * One test for each sentence of the document that names a boundary case. The remark at each test tells which promise
 * (or the Terms) and quotes the sentence; a refused call is held against a twin of the object that was never asked.
 */
public final class BoundaryTests {
    private static final int ALL = (1 << 28) - 1;
    private static final int LEAST = Integer.MIN_VALUE;
    private static final int MOST = Integer.MAX_VALUE;
    private static final int OWN_BIT = 1 << 16;
    private static int wrong = 0;
    private static int asked = 0;

    /** One call of the face, its arguments as a row. */
    private interface Call {
        long on(DiscLines x, int[] a);
    }

    private static final Call SHADE = (x, a) -> x.shade(a[0], a[1], a[2]);
    private static final Call GREEN = (x, a) -> x.green(a[0], a[1], a[2]);
    private static final Call MARK = (x, a) -> x.mark(a[0], a[1]);
    private static final Call SEEN = (x, a) -> x.seen(a[0], a[1], a[2], a[3], a[4]);
    private static final Call LINE = (x, a) -> x.line(a[0], a[1]);
    private static final Call WRITE = (x, a) -> x.write(a[0], a[1]);
    private static final Call ERASE = (x, a) -> x.erase(a[0]);
    private static final Call FAULT = (x, a) -> x.fault(a[0]);
    private static final Call DRAWN = (x, a) -> x.drawn(a[0], a[1], a[2], a[3], a[4], a[5]);
    private static final Call FAR = (x, a) -> x.far(a[0], a[1], a[2]);
    private static final Call FAIREST = (x, a) -> x.fairest(a[0], a[1], a[2], a[3]);
    private static final Call OBSERVER = (x, a) -> x.observer(a[0], a[1]);
    private static final Call SHEET = (x, a) -> x.sheet(a[0], a[1], a[2]);
    private static final Call DRAW = (x, a) -> x.draw(a[0], a[1], a[2], a[3], a[4], a[5]);
    private static final Call SHOW = (x, a) -> x.show(a[0], a[1], a[2]);
    private static final Call OF = (x, a) -> x.of(a[0], a[1]);
    private static final Call AGREE = (x, a) -> x.agree(a[0], a[1], a[2]);
    private static final Call CHANCE = (x, a) -> x.chance(a[0], a[1]);
    private static final Call PART = (x, a) -> x.part(a[0]);
    private static final Call OWN = (x, a) -> x.own(a[0]);
    private static final Call TOOK = (x, a) -> x.took(a[0], a[1]);
    private static final Call GUESS = (x, a) -> x.guess(a[0], a[1], a[2]);
    private static final Call ERROR = (x, a) -> x.error(a[0]);
    private static final Call ALLOWS = (x, a) -> x.allows(a[0], a[1]);
    private static final Call MAY_BE = (x, a) -> x.mayBe(a[0]);
    private static final Call THERE = (x, a) -> x.there(a[0], a[1]);
    private static final Call PARTS = (x, a) -> x.parts(a[0], a[1]);
    private static final Call WEIGHED = (x, a) -> x.weighed(a[0]);
    private static final Call SEASON = (x, a) -> x.season(a[0], a[1]);
    private static final Call IMAGE = (x, a) -> x.image(a[0]);
    private static final Call FROM = (x, a) -> x.from(a[0]);
    private static final Call COUNT = (x, a) -> x.count(a[0]);

    public static void main(String[] args) {
        worlds();
        laws();
        drawing();
        observersAndSheets();
        agreeing();
        taking();
        guessing();
        weighing();
        imagesAndSums();
        System.out.println(wrong == 0 ? "all boundaries hold, " + asked + " answers" : wrong + " answers are not as due");
        if (wrong != 0) {
            System.exit(1);
        }
    }

    private static void worlds() {
        newObject();
        worldsAre0To3();
        discHas81Cells();
        shadesAre0To15();
        greenRowsAre0To8();
        greenColumnsAreNineBits();
        marksAre0To7();
        marksLieApart();
        linesAre0To27();
        lineOfLikeMarks();
        glassesAre0To3();
        blurReachesJustSoFar();
        blurIsByCellsOfTheDisc();
        blurIsCut();
        airIs0To4();
        airAtTheEdges();
        darkeningIs0To15();
        darkenedIs15AtMost();
        darkeningOfGreenAlone();
    }

    private static void laws() {
        lawsAre0To3();
        charactersAre0To127();
        lawsAreFullAt40();
        lawOf40IsRead();
        eraseTellsHowMany();
        emptyLawHasFault1();
        faultOfNone();
        tooEarly();
        firstThatCanNotStand();
        seventhDigit();
        ninthOpen();
        blanks();
        lawWithAFaultDrawsNothing();
    }

    private static void drawing() {
        truths();
        whatBindsMore();
        sumsWrap();
        divisions();
        distances();
        halfWayIsCut();
        shownOrNot();
        shownIs28Bits();
        farIs0To3();
        spotsAlone();
        fairestAsks0Or1();
        fairestOfLikeOnes();
    }

    private static void observersAndSheets() {
        weightsAre0To9();
        observersAreFullAt8();
        observersAsTheyCome();
        nightsAre0To999();
        nightsDoNotGoBack();
        linesToldAre28Bits();
        sheetsAreFullAt16();
        drawIsFullAt16();
        sheetsOfAnEmptyBook();
        showsNoEarlierThanTheSheet();
        showsAreFullAt60();
        shownByThatNight();
        ofAsks0To3();
    }

    private static void agreeing() {
        agreeAsks0Or1();
        agreeOfLikeSheets();
        agreeOfNoneAndAll();
        bothShownByTheirNights();
        chanceOfLikeSheets();
        chanceAtItsEnds();
        chanceInLowestTerms();
        fractionAtFirst();
        partAsks0Or1();
    }

    private static void taking() {
        ownIs0To28();
        costOfItsOwn();
        tookFromOneToldAhead();
        tookFromOneShownByItsNight();
        mayHaveOfLikeCosts();
        tookAsks0To3();
        oldestOfALongChain();
        oldestOfItsOwnAheadOfAll();
        oldestByTheLeastNumber();
        waysWithoutSheets();
        waysOfAllSheets();
    }

    private static void guessing() {
        guessesAreFullAt12();
        errorIs0To28();
        errorLinesAtMost();
        allowsWithoutDarkeningAndAir();
        allowsOfNumbersThatCame();
        mayBeBySheetsThatCame();
        mayBeOfNothing();
        thereAsks0Or1();
        thereOfNone();
        thereInAllAndInSome();
        partsAsks0Or1();
        partsOfNone();
        partsOfLikeOnes();
        partsOfPlainPictures();
        partsOfOneAndOfFourWorlds();
    }

    private static void weighing() {
        weighedAsks();
        weighedOfAnEmptyBook();
        weighedAtItsEnds();
        weighedAboveNought();
        sureAtJustHalf();
        sureNeedsMoreThanNought();
        seasonOfSheetsThatCame();
        seasonOfNoneInBoth();
        seasonOfOneAtLeast();
    }

    private static void imagesAndSums() {
        imagesAre0And1();
        fromOneThatWasNotKept();
        imagesKeepAllButThem();
        imagesOfRowsAsLong();
        imagesDoNotKeepTheFraction();
        imagesStayAsTheyWere();
        countAsks0To3();
        countAtItsEnds();
        badAheadOfNoAndFull();
        digestOfANewObject();
        digestOfAFullOne();
        readingChangesNothing();
        calls512();
    }

    // ---- how the tests ask

    private static void due(String what, long got, long want) {
        asked++;
        if (got != want) {
            wrong++;
            System.out.println(what + " answered " + got + ", due is " + want);
        }
    }

    private static int lines(int... numbers) {
        int bits = 0;
        for (int n : numbers) {
            bits |= 1 << n;
        }
        return bits;
    }

    private static void law(DiscLines x, int law, String text) {
        x.erase(law);
        for (int i = 0; i < text.length(); i++) {
            x.write(law, text.charAt(i));
        }
    }

    private static DiscLines withLaw(String text) {
        DiscLines x = new DiscLines();
        law(x, 0, text);
        return x;
    }

    private static int drawnBy(String text) {
        return withLaw(text).drawn(0, 0, 0, 0, 0, 0);
    }

    private static int faultOf(String text) {
        return withLaw(text).fault(0);
    }

    /** Two observers and a sheet of observer 0 for each set of lines, all on night 5. */
    private static DiscLines withSheets(int... sets) {
        DiscLines x = new DiscLines();
        x.observer(0, 1);
        x.observer(1, 2);
        for (int set : sets) {
            x.sheet(0, 5, set);
        }
        return x;
    }

    /** A past in which no part is as it was at first, and both images are kept, of unlike pasts. */
    private static DiscLines some() {
        DiscLines x = new DiscLines();
        law(x, 3, "a|1");
        x.shade(3, 40, 2);
        x.observer(3, 4);
        x.sheet(0, 1, 3);
        x.guess(1, 3, 2);
        x.image(1);
        law(x, 0, "a+b>9");
        law(x, 1, "k|m>1");
        law(x, 2, "d<3&");
        x.shade(0, 0, 9);
        x.shade(1, 10, 12);
        x.shade(2, 50, 15);
        x.green(0, 1, 2);
        x.green(3, 8, 511);
        x.mark(7, 80);
        x.observer(1, 9);
        x.observer(0, 0);
        x.image(0);
        x.sheet(1, 6, lines(0, 1, 9, 27));
        x.sheet(0, 7, lines(0, 1, 9));
        x.draw(1, 7, 2, 3, 1, 2);
        x.show(0, 1, 3);
        x.show(1, 0, 7);
        x.show(1, 2, 900);
        x.guess(0, 1, 1);
        x.guess(2, 0, 3);
        x.own(11);
        x.error(7);
        x.chance(1, 2);
        return x;
    }

    /** Every row is full: observers, sheets, shows, guesses, the signs of law 3. */
    private static DiscLines full() {
        DiscLines x = new DiscLines();
        for (int i = 0; i < 40; i++) {
            x.write(3, 127 - i);
        }
        for (int i = 0; i < 8; i++) {
            x.observer(i % 4, 9 - i);
        }
        for (int i = 0; i < 16; i++) {
            x.sheet(i % 8, 984 + i, ALL - i);
        }
        for (int i = 0; i < 60; i++) {
            x.show(i % 16, i % 8, 999);
        }
        for (int i = 0; i < 12; i++) {
            x.guess(i % 4, (i + 1) % 4, (i + 2) % 4);
        }
        return x;
    }

    private static int look(DiscLines x, long[] into, int at) {
        int next = at;
        into[next++] = x.digest();
        for (int law = 0; law < 4; law++) {
            into[next++] = x.fault(law);
            for (int world = 0; world < 4; world++) {
                into[next++] = x.drawn(law, world, 3, 1, 2, 0x5555555);
            }
        }
        into[next++] = x.ways();
        into[next++] = x.mayBe(0);
        into[next++] = x.weighed(0);
        return next;
    }

    /** All that can be told of an object, its images too; it is used up by that. */
    private static long[] portrait(DiscLines x) {
        long[] seen = new long[100];
        int next = look(x, seen, 0);
        seen[next++] = x.from(0);
        next = look(x, seen, next);
        seen[next++] = x.from(1);
        look(x, seen, next);
        return seen;
    }

    /** A refused call: its answer, and that the object is as a twin that was not asked. */
    private static void refused(String what, Supplier<DiscLines> made, Call call, long want, int... a) {
        DiscLines x = made.get();
        String told = what + " " + Arrays.toString(a);
        due(told, call.on(x, a), want);
        due(told + " changed something", Arrays.equals(portrait(x), portrait(made.get())) ? 1 : 0, 1);
    }

    private static void accepted(String what, Supplier<DiscLines> made, Call call, long refusal, int... a) {
        asked++;
        if (call.on(made.get(), a) == refusal) {
            wrong++;
            System.out.println(what + " " + Arrays.toString(a) + " was refused");
        }
    }

    /** The argument at a place: its least and most are taken, all around it is refused, and so are the ends of int. */
    private static void range(String what, Supplier<DiscLines> made, Call call, int at, int least, int most, int... a) {
        rangeRefusedBy(-2, what, made, call, at, least, most, a);
    }

    private static void rangeRefusedBy(long bad, String what, Supplier<DiscLines> made, Call call, int at, int least,
            int most, int... a) {
        for (int v : new int[] {least, most}) {
            int[] b = a.clone();
            b[at] = v;
            accepted(what, made, call, bad, b);
        }
        // the last ones have a number of the range in their low bits
        int[] outside = {least - 1, most + 1, LEAST, MOST, -most - 1, LEAST + most, 1 << 30 | most, 1 << 24 | least};
        for (int v : outside) {
            if (v < least || v > most) {
                int[] b = a.clone();
                b[at] = v;
                refused(what, made, call, bad, b);
            }
        }
    }

    // ---- worlds

    // Promise 1: "As told." Terms: "0 at first", "MARK m at cell 10 m at first", "3 at first", "2 at first",
    // "THE FRACTION is 0 by 1 at first"
    private static void newObject() {
        DiscLines x = new DiscLines();
        for (int world = 0; world < 4; world++) {
            for (int cell = 0; cell < 81; cell += 8) {
                due("1: shade at first", x.shade(world, cell, 0), 0);
            }
            for (int row = 0; row < 9; row++) {
                due("1: green at first", x.green(world, row, 0), 0);
            }
            due("1: law at first", x.erase(world), 0);
        }
        for (int m = 0; m < 8; m++) {
            due("1: mark at first", x.mark(m, 10 * m), 10 * m);
        }
        for (int what = 0; what < 4; what++) {
            due("1: count at first", x.count(what), 0);
        }
        due("1: own at first", x.own(0), 3);
        due("1: error at first", x.error(0), 2);
        due("1: the fraction at first, above", x.part(0), 0);
        due("1: the fraction at first, below", x.part(1), 1);
        due("1: no image at first", x.from(0), -3);
        due("1: no image at first", x.from(1), -3);
    }

    // Terms: "WORLDS 0 .. 3"
    private static void worldsAre0To3() {
        range("2: world", BoundaryTests::some, SHADE, 0, 0, 3, 0, 5, 5);
        range("3: world", BoundaryTests::some, GREEN, 0, 0, 3, 0, 5, 5);
        range("5: world", BoundaryTests::some, SEEN, 0, 0, 3, 0, 0, 0, 0, 0);
        range("10: world", BoundaryTests::some, DRAWN, 1, 0, 3, 0, 0, 0, 0, 0, 0);
        range("11: world", BoundaryTests::some, FAR, 1, 0, 3, 0, 0, 0);
        range("12: world", BoundaryTests::some, FAIREST, 2, 0, 3, 0, 1, 0, 0);
        range("15: world", BoundaryTests::some, DRAW, 2, 0, 3, 0, 7, 0, 0, 0, 0);
        range("24: world", BoundaryTests::some, GUESS, 0, 0, 3, 0, 0, 0);
        DiscLines x = new DiscLines();
        for (int world = 0; world < 4; world++) {
            x.shade(world, 80, world + 1);
        }
        for (int world = 0; world < 4; world++) {
            due("2: worlds lie apart", x.shade(world, 80, 0), world + 1);
        }
    }

    // Terms: "a DISC of 9 rows of 9 cells (cell 9 r and c)"
    private static void discHas81Cells() {
        range("2: cell", BoundaryTests::some, SHADE, 1, 0, 80, 0, 0, 5);
        range("4: cell", BoundaryTests::some, MARK, 1, 0, 79, 0, 0);
        range("4: cell", DiscLines::new, MARK, 1, 0, 80, 0, 0);
        range("5: cell", BoundaryTests::some, SEEN, 4, 0, 80, 0, 0, 0, 0, 0);
        DiscLines x = new DiscLines();
        x.shade(0, 80, 7);
        x.shade(0, 8, 3);
        due("5: the cell right of row 7, column 8 is none", x.seen(0, 0, 0, 4, 71), 0);
        due("5: row 8 has column 8", x.seen(0, 0, 0, 4, 79), 7);
        due("5: row 0 has column 8", x.seen(0, 0, 0, 4, 7), 3);
        due("5: below row 0, column 8 lies row 1, column 8", x.seen(0, 0, 0, 1, 17), 3);
    }

    // Promise 2: "A SHADE: what it was. BAD." Terms: "SHADES (0 .. 15; 0 at first)"
    private static void shadesAre0To15() {
        range("2: shade", BoundaryTests::some, SHADE, 2, 0, 15, 3, 80, 0);
        DiscLines x = new DiscLines();
        due("2: 0 at first", x.shade(3, 80, 15), 0);
        due("2: the most was kept", x.shade(3, 80, 16), -2);
        due("2: a refused one was not", x.shade(3, 80, 0), 15);
        due("2: the least was kept", x.shade(3, 80, 1), 0);
    }

    // Promise 3: "GREEN cells of a row (0 .. 8) of a WORLD .. BAD."
    private static void greenRowsAre0To8() {
        range("3: row", BoundaryTests::some, GREEN, 1, 0, 8, 0, 0, 5);
        DiscLines x = new DiscLines();
        due("3: row 8", x.green(0, 8, 256), 0);
        due("3: row 0", x.green(0, 0, 1), 0);
        due("3: cell 80 alone", x.seen(0, 15, 0, 0, 80), 15);
        due("3: cell 0 alone", x.seen(0, 15, 0, 0, 0), 15);
        due("3: not cell 79", x.seen(0, 15, 0, 0, 79), 0);
        due("3: not cell 8", x.seen(0, 15, 0, 0, 8), 0);
    }

    // Promise 3: "as bits of columns: what they were. BAD."
    private static void greenColumnsAreNineBits() {
        range("3: columns", BoundaryTests::some, GREEN, 2, 0, 511, 0, 0, 0);
        DiscLines x = new DiscLines();
        due("3: none at first", x.green(2, 4, 511), 0);
        due("3: ten bits are refused", x.green(2, 4, 512), -2);
        due("3: nine bits were kept", x.green(2, 4, 0), 511);
        due("3: no bit was kept", x.green(2, 4, 1), 0);
    }

    // Terms: "MARKS 0 .. 7 lie at cells"
    private static void marksAre0To7() {
        range("4: mark", BoundaryTests::some, MARK, 0, 0, 7, 0, 33);
        range("6: first mark", BoundaryTests::some, LINE, 0, 0, 7, 0, 3);
        range("6: second mark", BoundaryTests::some, LINE, 1, 0, 7, 3, 0);
    }

    // Promise 4: "BAD: another MARK lies there, too."
    private static void marksLieApart() {
        for (int other = 0; other < 7; other++) {
            refused("4: another lies there", DiscLines::new, MARK, -2, 7, 10 * other);
            refused("4: another lies there", DiscLines::new, MARK, -2, other, 70);
        }
        DiscLines x = new DiscLines();
        due("4: the same mark may lie there", x.mark(7, 70), 70);
        due("4: it goes", x.mark(7, 80), 70);
        due("4: where it lay is free", x.mark(0, 70), 0);
        due("4: where it lies is not", x.mark(0, 80), -2);
    }

    // Terms: "LINES are pairs of MARKS a < b, numbered by a, then b: 0 (0 and 1), 1 (0 and 2), .. 27"
    private static void linesAre0To27() {
        DiscLines x = new DiscLines();
        due("6: the first", x.line(0, 1), 0);
        due("6: the second", x.line(0, 2), 1);
        due("6: the last of mark 0", x.line(0, 7), 6);
        due("6: the first of mark 1", x.line(1, 2), 7);
        due("6: the last of mark 5", x.line(5, 7), 26);
        due("6: the last", x.line(6, 7), 27);
        due("6: the last, told the other way about", x.line(7, 6), 27);
    }

    // Promise 6: "BAD: alike, too."
    private static void lineOfLikeMarks() {
        for (int m = 0; m < 8; m++) {
            refused("6: alike", BoundaryTests::some, LINE, -2, m, m);
        }
        refused("6: alike and none", BoundaryTests::some, LINE, -2, 8, 8);
    }

    // Terms: "A GLASS 0 .. 3 blurs"
    private static void glassesAre0To3() {
        range("5: glass", BoundaryTests::some, SEEN, 2, 0, 3, 0, 0, 0, 0, 0);
        range("10: glass", BoundaryTests::some, DRAWN, 3, 0, 3, 0, 0, 0, 0, 0, 0);
        range("15: glass", BoundaryTests::some, DRAW, 4, 0, 3, 0, 7, 0, 0, 0, 0);
        range("24: glass", BoundaryTests::some, GUESS, 2, 0, 3, 0, 0, 0);
        DiscLines x = new DiscLines();
        x.shade(0, 40, 15);
        due("5: glass 0 does not blur", x.seen(0, 0, 0, 0, 40), 15);
        due("5: glass 0 has nothing beside it", x.seen(0, 0, 0, 0, 41), 0);
    }

    // Terms: "all cells of the DISC no more than g rows and g columns away"
    private static void blurReachesJustSoFar() {
        DiscLines x = new DiscLines();
        for (int i = 0; i < 9; i++) {
            x.shade(0, 9 * i + 4, 15);
            x.shade(1, 36 + i, 15);
        }
        int[] sums = {15, 5, 3, 3};
        for (int g = 1; g < 4; g++) {
            int near = 4 - g;
            due("5: column 4 from g columns away", x.seen(0, 0, g, 0, 36 + near), sums[g]);
            due("5: column 4 from one more", x.seen(0, 0, g, 0, 36 + near - 1), 0);
            due("5: column 4 from g columns away, right of it", x.seen(0, 0, g, 0, 36 + 8 - near), sums[g]);
            due("5: column 4 from one more, right of it", x.seen(0, 0, g, 0, 36 + 9 - near), 0);
            due("5: row 4 from g rows away", x.seen(1, 0, g, 0, 9 * near + 4), sums[g]);
            due("5: row 4 from one more", x.seen(1, 0, g, 0, 9 * (near - 1) + 4), 0);
            due("5: row 4 from g rows away, below it", x.seen(1, 0, g, 0, 9 * (8 - near) + 4), sums[g]);
            due("5: row 4 from one more, below it", x.seen(1, 0, g, 0, 9 * (9 - near) + 4), 0);
        }
    }

    // Terms: "by how many these are": fewer at the edges of the disc
    private static void blurIsByCellsOfTheDisc() {
        DiscLines x = new DiscLines();
        for (int cell = 0; cell < 81; cell++) {
            x.shade(2, cell, 15);
        }
        for (int g = 0; g < 4; g++) {
            for (int cell : new int[] {0, 4, 8, 36, 40, 44, 72, 76, 80}) {
                due("5: 15 all about", x.seen(2, 0, g, 0, cell), 15);
            }
        }
    }

    // Terms: "the sum of SHADES .. by how many these are, cut"
    private static void blurIsCut() {
        DiscLines x = new DiscLines();
        x.shade(0, 40, 8);
        due("5: 8 by 9", x.seen(0, 0, 1, 0, 40), 0);
        x.shade(0, 40, 9);
        due("5: 9 by 9", x.seen(0, 0, 1, 0, 40), 1);
        x.shade(0, 41, 8);
        due("5: 17 by 9", x.seen(0, 0, 1, 0, 40), 1);
        x.shade(0, 41, 9);
        due("5: 18 by 9", x.seen(0, 0, 1, 0, 40), 2);
        due("5: 18 by 25", x.seen(0, 0, 2, 0, 40), 0);
        x.shade(0, 39, 7);
        due("5: 25 by 25", x.seen(0, 0, 2, 0, 40), 1);
    }

    // Terms: "AIR moves what is seen: 0 not, 1 to 4 by one cell"
    private static void airIs0To4() {
        range("5: air", BoundaryTests::some, SEEN, 3, 0, 4, 0, 0, 0, 0, 0);
        range("10: air", BoundaryTests::some, DRAWN, 4, 0, 4, 0, 0, 0, 0, 0, 0);
        range("15: air", BoundaryTests::some, DRAW, 5, 0, 4, 0, 7, 0, 0, 0, 0);
        DiscLines x = new DiscLines();
        int[] around = {40, 31, 49, 39, 41};
        for (int air = 0; air < 5; air++) {
            x.shade(0, around[air], air + 3);
        }
        for (int air = 0; air < 5; air++) {
            due("5: moved by air " + air, x.seen(0, 0, 0, air, 40), air + 3);
        }
    }

    // Terms: "what is seen at a cell is that of the cell above, below, left, right of it (of the same, if there is none)"
    private static void airAtTheEdges() {
        DiscLines x = new DiscLines();
        int[] edges = {3, 75, 27, 35};
        int[] inner = {12, 66, 28, 34};
        for (int i = 0; i < 4; i++) {
            x.shade(0, edges[i], 5 + i);
        }
        for (int air = 1; air < 5; air++) {
            due("5: of the same, air " + air, x.seen(0, 0, 0, air, edges[air - 1]), 4 + air);
            due("5: of the edge, air " + air, x.seen(0, 0, 0, air, inner[air - 1]), 4 + air);
        }
        x.shade(0, 26, 15);
        x.shade(0, 36, 15);
        due("5: left of column 0 lies no row's end", x.seen(0, 0, 0, 3, 27), 7);
        due("5: right of column 8 lies no row's start", x.seen(0, 0, 0, 4, 35), 8);
        DiscLines y = new DiscLines();
        y.shade(0, 80, 12);
        due("5: through a glass, too: 12 by 4", y.seen(0, 0, 1, 2, 80), 3);
        due("5: that of the cell, 12 by 4, not by 6", y.seen(0, 0, 1, 2, 71), 3);
        due("5: and not moved 12 by 6", y.seen(0, 0, 1, 0, 71), 2);
    }

    // Terms: "DARKENING (0 .. 15)"
    private static void darkeningIs0To15() {
        range("5: darkening", BoundaryTests::some, SEEN, 1, 0, 15, 0, 0, 0, 0, 0);
        range("10: darkening", BoundaryTests::some, DRAWN, 2, 0, 15, 0, 0, 0, 0, 0, 0);
        range("15: darkening", BoundaryTests::some, DRAW, 3, 0, 15, 0, 7, 0, 0, 0, 0);
    }

    // Terms: "so much more is each SHADE .., 15 at most; 0 none"
    private static void darkenedIs15AtMost() {
        DiscLines x = new DiscLines();
        x.green(0, 0, 7);
        x.shade(0, 0, 10);
        x.shade(0, 1, 15);
        due("5: 0 is none", x.seen(0, 0, 0, 0, 0), 10);
        due("5: 14", x.seen(0, 4, 0, 0, 0), 14);
        due("5: just 15", x.seen(0, 5, 0, 0, 0), 15);
        due("5: not 16", x.seen(0, 6, 0, 0, 0), 15);
        due("5: not 30", x.seen(0, 15, 0, 0, 1), 15);
        due("5: 0 and 15", x.seen(0, 15, 0, 0, 2), 15);
        due("5: cut at 15 ahead of the blur: 45 by 4 with two not green", x.seen(0, 15, 1, 0, 0), 7);
        due("5: the shade itself is as it was", x.shade(0, 0, 10), 10);
    }

    // Terms: "each SHADE of cells told as GREEN of that WORLD (as bits by rows)"
    private static void darkeningOfGreenAlone() {
        DiscLines x = new DiscLines();
        x.green(1, 4, 1 << 4);
        for (int cell = 30; cell < 50; cell++) {
            due("5: cell " + cell, x.seen(1, 9, 0, 0, cell), cell == 40 ? 9 : 0);
        }
        due("5: another world", x.seen(0, 9, 0, 0, 40), 0);
    }

    // ---- laws

    // Terms: "LAWS 0 .. 3"
    private static void lawsAre0To3() {
        range("7: law", BoundaryTests::some, WRITE, 0, 0, 3, 0, 49);
        range("8: law", BoundaryTests::some, ERASE, 0, 0, 3, 0);
        range("9: law", BoundaryTests::some, FAULT, 0, 0, 3, 0);
        range("10: law", BoundaryTests::some, DRAWN, 0, 0, 3, 0, 0, 0, 0, 0, 0);
        range("11: law", BoundaryTests::some, FAR, 0, 0, 3, 0, 0, 0);
        range("12: law a", BoundaryTests::some, FAIREST, 0, 0, 3, 0, 1, 0, 0);
        range("12: law b", BoundaryTests::some, FAIREST, 1, 0, 3, 1, 0, 0, 0);
        range("13: law", BoundaryTests::some, OBSERVER, 0, 0, 3, 0, 0);
        range("24: law", BoundaryTests::some, GUESS, 1, 0, 3, 0, 0, 0);
        DiscLines x = new DiscLines();
        law(x, 3, "1");
        law(x, 0, "0");
        due("10: law 3", x.drawn(3, 0, 0, 0, 0, 0), ALL);
        due("10: law 0", x.drawn(0, 0, 0, 0, 0, 0), 0);
        due("9: law 1 is empty", x.fault(1), 1);
    }

    // Promise 7: "A character (0 .. 127) behind a LAW: how many. BAD"
    private static void charactersAre0To127() {
        range("7: character", BoundaryTests::some, WRITE, 1, 0, 127, 0, 0);
        DiscLines x = new DiscLines();
        due("7: the least", x.write(0, 0), 1);
        due("7: the most", x.write(0, 127), 2);
        due("9: neither can stand", x.fault(0), 1);
        due("8: both were kept", x.erase(0), 2);
        // 305 has the low bits of the digit 1
        refused("7: one with a digit in its low bits", DiscLines::new, WRITE, -2, 0, 305);
    }

    // Promise 7: "FULL: 40." Terms: "texts of 40 characters at most"
    private static void lawsAreFullAt40() {
        DiscLines x = new DiscLines();
        for (int i = 1; i <= 40; i++) {
            due("7: how many", x.write(2, ' '), i);
        }
        due("7: full", x.write(2, '1'), -4);
        due("7: still full", x.write(2, 0), -4);
        due("9: the 41st was not kept", x.fault(2), 401);
        due("7: another law is not full", x.write(3, '1'), 1);
        due("8: 40 were kept", x.erase(2), 40);
        due("7: no longer full", x.write(2, '1'), 1);
        refused("7: full", BoundaryTests::full, WRITE, -4, 3, 49);
        refused("7: full", BoundaryTests::full, WRITE, -4, 3, 127);
    }

    // Terms: "texts of 40 characters at most": the 40th counts
    private static void lawOf40IsRead() {
        String eighteen = "1+1+1+1+1+1+1+1+1+1+1+1+1+1+1+1+1+1";
        due("9: of 40", faultOf(eighteen + "-18=0"), -1);
        due("10: of 40", drawnBy(eighteen + "-18=0"), ALL);
        due("10: the 40th counts", drawnBy(eighteen + "-18=1"), 0);
        due("9: the 40th can not stand", faultOf(eighteen + "-18=x"), 391);
        due("9: 40, too early", faultOf(eighteen + "-18=="), 391);
        due("9: 40, ends too early", faultOf(eighteen + "-1-1="), 401);
        due("10: 39 times !", drawnBy("!".repeat(39) + "1"), 0);
        due("10: 39 times ! of 0", drawnBy("!".repeat(39) + "0"), ALL);
        due("10: 39 times -", drawnBy("-".repeat(35) + "1=-1"), ALL);
        due("10: 34 times -", drawnBy("-".repeat(34) + "1=-1"), 0);
    }

    // Promise 8: "A LAW is empty: how many. BAD."
    private static void eraseTellsHowMany() {
        DiscLines x = full();
        due("8: a full one", x.erase(3), 40);
        due("8: an empty one", x.erase(3), 0);
        due("8: once more", x.erase(3), 0);
        due("9: empty", x.fault(3), 1);
        law(x, 0, "1");
        x.write(1, '1');
        x.erase(0);
        due("8: another law is as it was", x.erase(1), 1);
    }

    // Promise 9: "FAULT (of an empty one 1)."
    private static void emptyLawHasFault1() {
        DiscLines x = new DiscLines();
        for (int law = 0; law < 4; law++) {
            due("9: empty at first", x.fault(law), 1);
        }
        law(x, 2, "1");
        due("9: not empty", x.fault(2), -1);
        x.erase(2);
        due("9: emptied", x.fault(2), 1);
    }

    // Promise 9: "NONE."
    private static void faultOfNone() {
        String[] right = {"1", "a", "b", "d", "m", "k", "g", "(1)", "!1", "-1", "--1", "1-1", "1--1", "1|1", "1&1", "1<1",
            "1>1", "1=1", "1+1", "1*1", "1/1", "1/0", "!(a<b)&-d*2+m/3=k|g", "1=1&1=1", "1=1|1=1", "(1=1)=1", "1<(1<1)"};
        for (String text : right) {
            due("9: none of " + text, faultOf(text), -1);
        }
    }

    // Terms: "FAULT: 10 times the place of the first character that can not stand there (its length: too early) and 1"
    private static void tooEarly() {
        String[] early = {"", " ", "(", "!", "-", "1+", "1-", "1*", "1/", "1<", "1>", "1=", "1&", "1|", "(1", "((1)",
            "1+(", "1 + ", "!!", "(1+", "1<2&", "((((((((", "-( "};
        for (String text : early) {
            due("9: too early: \"" + text + "\"", faultOf(text), 10 * text.length() + 1);
        }
    }

    // Terms: "the first character that can not stand there"
    private static void firstThatCanNotStand() {
        Object[][] texts = {{"x", 1}, {")", 1}, {"+1", 1}, {"1)", 11}, {"()", 11}, {"1 1", 21}, {"11a", 21}, {"a1", 11},
            {"1<1<1", 31}, {"1=1=1", 31}, {"1>1<1", 31}, {"1<=1", 21}, {"1!1", 11}, {"1(1)", 11}, {"(1)1", 31},
            {"1++1", 21}, {"1-*1", 21}, {"1&|1", 21}, {"(1<1<1)", 41}, {"1+x+y", 21}, {"e", 1}, {"c", 1}, {"f", 1},
            {"A", 1}, {"1.", 11}, {"1\t", 11}, {"1\n1", 11}, {"\0", 1}, {"1\0", 11}, {"1\u007f", 11}, {"1:", 11}, {"1;", 11}, {"(1]", 21}};
        for (Object[] t : texts) {
            due("9: can not stand: " + t[0], faultOf((String) t[0]), (Integer) t[1]);
        }
    }

    // Terms: "UNIT: digits (1 .. 6)", "2: a seventh digit (at the first)"
    private static void seventhDigit() {
        due("9: one digit", faultOf("0"), -1);
        due("9: six digits", faultOf("999999"), -1);
        due("10: all six count", drawnBy("999999-999998=1"), ALL);
        due("10: six noughts", drawnBy("000000"), 0);
        due("10: six with noughts ahead", drawnBy("000001=1"), ALL);
        due("9: seven digits", faultOf("1000000"), 2);
        due("9: seven noughts", faultOf("0000000"), 2);
        due("9: eight digits", faultOf("12345678"), 2);
        due("9: forty digits", faultOf("1".repeat(40)), 2);
        due("9: told at the first of them", faultOf("1+(1234567)"), 32);
        due("9: behind a blank", faultOf(" 1234567"), 12);
        due("9: what lies behind is not read", faultOf("1234567x"), 2);
        due("9: what lies ahead is", faultOf("x1234567"), 1);
        due("9: digits that can not stand there", faultOf("a1234567"), 11);
        due("9: six and six", faultOf("123456+123456"), -1);
    }

    // Terms: "3: the 9th ( open"
    private static void ninthOpen() {
        due("9: eight open", faultOf("((((((((1))))))))"), -1);
        due("10: eight open", drawnBy("((((((((1))))))))"), ALL);
        due("9: nine open", faultOf("(((((((((1)))))))))"), 83);
        due("9: nine open, no more", faultOf("((((((((("), 83);
        due("9: eight open, no more", faultOf("(((((((("), 81);
        due("9: nine open with blanks", faultOf(" ( ( ( ( ( ( ( ( ("), 173);
        due("9: a ninth when eight are closed", faultOf("((((((((1))))))))+(1)"), -1);
        due("9: a ninth when one is closed", faultOf("((((((((1)+(1))))))))"), -1);
        due("9: a ninth behind - and !", faultOf("((((((((-!(1"), 103);
        due("9: a ninth that can not stand there", faultOf("((((((((1("), 91);
        due("9: twelve one behind the other", faultOf("(1)+(1)+(1)+(1)+(1)+(1)+(1)+(1)+(1)+(1)"), -1);
    }

    // Terms: "blanks anywhere but within digits"
    private static void blanks() {
        due("9: anywhere", faultOf("  ( ! a  <  - 12 ) & k  =  1  "), -1);
        due("9: within digits", faultOf("1 2"), 21);
        due("9: within digits, two blanks", faultOf("1  2"), 31);
        due("9: blanks alone", faultOf("     "), 51);
        due("10: they change nothing", drawnBy("  12  =  3 *  4  "), ALL);
        due("10: behind a prefix", drawnBy("! - ! 0 = 0"), ALL);
    }

    // Terms: "A LAW with a FAULT draws nothing."
    private static void lawWithAFaultDrawsNothing() {
        for (String text : new String[] {"", "1|", "1)", "1234567", "((((((((((1", "1<1<1", "1 1"}) {
            DiscLines x = withLaw(text);
            law(x, 1, "1");
            due("10: nothing by " + text, x.drawn(0, 0, 0, 0, 0, ALL), 0);
            due("11: nothing by " + text, x.far(0, 0, 0), 0);
            due("12: 0 lines and 28", x.fairest(0, 1, 0, 1), 28);
            x.observer(0, 1);
            due("15: a sheet all the same", x.draw(0, 0, 0, 0, 0, 0), 0);
            due("15: nothing on it", x.of(0, 0), 0);
            x.guess(0, 0, 0);
            x.error(0);
            due("26: an empty sheet is allowed", x.allows(0, 0), 1);
            due("28: nothing is there in some", x.there(1, 1), 0);
            due("29: one way", x.parts(1, 1), 1);
        }
    }

    // ---- drawing

    // Terms: "truths 1, 0 (not 0 is a truth)"
    private static void truths() {
        for (String text : new String[] {"1", "2", "-1", "999999", "!0", "(5|0)=1", "(0|5)=1", "(5&7)=1", "(1<2)=1", "(2>1)=1",
            "(2=2)=1", "!7=0", "(2<2)=0", "(2>2)=0", "(2=3)=0", "(0|0)=0", "(5&0)=0", "(0&5)=0", "-1&-1", "-1|0", "!!9=1"}) {
            due("10: a truth: " + text, drawnBy(text), ALL);
        }
        for (String text : new String[] {"0", "-0", "!1", "!-1", "!2", "0|0", "1&0", "0&1", "2<2", "2>2", "2=3", "1-1"}) {
            due("10: no truth: " + text, drawnBy(text), 0);
        }
    }

    // Terms: "BOTHS with | between", "HELDS with & between", "TERMS with + or -", "UNITS with * or /"
    private static void whatBindsMore() {
        for (String text : new String[] {"1|0&0", "1|1&0", "0&0|1", "0=0&1", "0|0=0", "2=1+1", "1+2*3=7", "7-4/2=5", "7-4-2=1",
            "8/4*2=4", "-1+1=0", "-2*3=-6", "!0+1=2", "!0*0=0", "(1|0)&1", "!(1|0)=0", "(7-4)*2=6", "(1+1=2)+1=2"}) {
            due("10: " + text, drawnBy(text), ALL);
        }
    }

    // Terms: "longs wrap"
    private static void sumsWrap() {
        String least = "65536*65536*65536*32768";
        due("10: no int: 2 to the 32 is a truth", drawnBy("65536*65536"), ALL);
        due("10: 2 to the 62 does not wrap", drawnBy("65536*65536*65536*16384>0"), ALL);
        due("10: 2 to the 63 is the least", drawnBy(least + "<0"), ALL);
        due("10: 2 to the 64 is 0", drawnBy("65536*65536*65536*65536"), 0);
        due("10: less 1 is the most", drawnBy(least + "-1>0"), ALL);
        due("10: the most and 1 is the least", drawnBy("-1+" + least + "+1<0"), ALL);
        due("10: - of the least", drawnBy("-(" + least + ")<0"), ALL);
        due("10: the least by -1", drawnBy(least + "/-1<0"), ALL);
        due("10: the least by 1", drawnBy(least + "/1<0"), ALL);
        due("10: twice the least", drawnBy(least + "*2=0"), ALL);
        due("10: 2 to the 32 is not like 0", drawnBy("65536*65536=0"), 0);
        due("10: ! of 2 to the 32", drawnBy("!(65536*65536)"), 0);
        due("10: & of 2 to the 32", drawnBy("65536*65536&1"), ALL);
        due("10: | of 2 to the 32", drawnBy("65536*65536|0"), ALL);
        due("10: less than 2 to the 32", drawnBy("1<65536*65536"), ALL);
    }

    // Terms: "/ cut toward 0, by 0 is 0"
    private static void divisions() {
        for (String text : new String[] {"7/2=3", "-7/2=-3", "7/-2=-3", "-7/-2=3", "1/2=0", "-1/2=0", "5/0=0", "0/0=0", "-5/0=0",
            "5/(1-1)=0", "7/2*2=6", "7*2/4=3", "5/0+1=1", "1|1/0", "8/2/2=2"}) {
            due("10: " + text, drawnBy(text), ALL);
        }
        due("10: by what is seen, 0", drawnBy("1/a"), 0);
    }

    // Terms: "d how far apart their cells are (the greater of rows and columns)"
    private static void distances() {
        DiscLines x = withLaw("d=8");
        due("10: none is 8 apart", x.drawn(0, 0, 0, 0, 0, 0), 0);
        x.mark(7, 72);
        due("10: 8 rows, no column", x.drawn(0, 0, 0, 0, 0, 0), lines(6));
        x.mark(7, 8);
        due("10: 8 columns, no row", x.drawn(0, 0, 0, 0, 0, 0), lines(6));
        x.mark(0, 80);
        law(x, 0, "d=1");
        x.mark(7, 71);
        due("10: neighbours, the lesser mark lies below", x.drawn(0, 0, 0, 0, 0, 0) & lines(6), lines(6));
        x.mark(7, 79);
        due("10: neighbours, the lesser mark lies right", x.drawn(0, 0, 0, 0, 0, 0) & lines(6), lines(6));
        law(x, 0, "d<1");
        due("10: never 0", x.drawn(0, 0, 0, 0, 0, 0), 0);
        law(x, 0, "d=5");
        x.mark(0, 2);
        x.mark(7, 34);
        due("10: 0, 2 and 3, 7", x.drawn(0, 0, 0, 0, 0, 0) & lines(6), lines(6));
        x.mark(0, 47);
        x.mark(7, 3);
        due("10: 5, 2 and 0, 3", x.drawn(0, 0, 0, 0, 0, 0) & lines(6), lines(6));
    }

    // Terms: "the cell half way (of both sums of rows and columns by 2, cut)"
    private static void halfWayIsCut() {
        DiscLines x = withLaw("m=9");
        x.mark(7, 80);
        x.shade(0, 0, 9);
        due("10: of 0, 0 and 1, 1 it is 0, 0", x.drawn(0, 0, 0, 0, 0, 0), lines(0));
        x.shade(1, 10, 9);
        due("10: of 0, 0 and 2, 2 or 3, 3; of 1, 1 and 2, 2", x.drawn(0, 1, 0, 0, 0, 0), lines(1, 2, 7));
        x.shade(2, 70, 9);
        due("10: of 6, 6 and 8, 8 it is 7, 7", x.drawn(0, 2, 0, 0, 0, 0), lines(27));
        x.mark(6, 79);
        x.shade(3, 79, 9);
        due("10: of 8, 7 and 8, 8 it is 8, 7", x.drawn(0, 3, 0, 0, 0, 0), lines(27));
        x.mark(6, 72);
        x.mark(7, 17);
        x.shade(3, 40, 9);
        due("10: of 8, 0 and 1, 8 it is 4, 4", x.drawn(0, 3, 0, 0, 0, 0) & lines(27), lines(27));
        x.mark(6, 2);
        x.mark(7, 34);
        x.shade(3, 13, 9);
        due("10: of 0, 2 and 3, 7 it is 1, 4", x.drawn(0, 3, 0, 0, 0, 0) & lines(27), lines(27));
    }

    // Terms: "k 1 if it was shown (else 0)"
    private static void shownOrNot() {
        DiscLines x = withLaw("k=1");
        due("10: the first and the last", x.drawn(0, 0, 0, 0, 0, lines(0, 27)), lines(0, 27));
        law(x, 0, "k=0");
        due("10: all but these", x.drawn(0, 0, 0, 0, 0, lines(0, 27)), ALL ^ lines(0, 27));
        due("10: nothing shown", x.drawn(0, 0, 0, 0, 0, 0), ALL);
        due("10: all shown", x.drawn(0, 0, 0, 0, 0, ALL), 0);
        due("11: from afar nothing is shown", x.far(0, 0, 0), ALL);
    }

    // Promise 10: "BAD: -2: shown 0 .. 2 to the 28 less 1."
    private static void shownIs28Bits() {
        range("10: shown", BoundaryTests::some, DRAWN, 5, 0, ALL, 1, 0, 0, 0, 0, 0);
        refused("10: all bits", BoundaryTests::some, DRAWN, -2, 1, 0, 0, 0, 0, -1);
        refused("10: bit 28", BoundaryTests::some, DRAWN, -2, 1, 0, 0, 0, 0, 1 << 28);
    }

    // Promise 11: "DRAWN from FAR, as bits. BAD." Terms: "from so far f (0 .. 3)"
    private static void farIs0To3() {
        range("11: f", BoundaryTests::some, FAR, 2, 0, 3, 0, 0, 0);
        for (int f = 0; f < 4; f++) {
            due("11: as through glass " + f, withLaw("g=" + f).far(0, 0, f), ALL);
        }
    }

    // Terms: "the SHADES of a WORLD at MARKS' cells alone, 0 elsewhere .. without AIR, DARKENING"
    private static void spotsAlone() {
        DiscLines x = withLaw("a=15");
        for (int cell = 0; cell < 81; cell++) {
            x.shade(0, cell, 15);
        }
        x.green(1, 0, 511);
        due("11: at its own cell", x.far(0, 0, 0), ALL);
        due("11: through a glass 30 by 4, then 45 by 9", x.far(0, 0, 1), 0);
        law(x, 0, "a=7");
        due("11: mark 0 alone has 30 by 4", x.far(0, 0, 1), 127);
        law(x, 0, "a=5");
        due("11: marks 1 to 6 have 45 by 9", x.far(0, 0, 1), ALL ^ 127);
        law(x, 0, "m=15");
        due("11: half way, where there is a mark", x.far(0, 0, 0), ALL);
        x.mark(1, 9);
        due("11: half way of 0 and 2 there is none now", x.far(0, 0, 0) & lines(1), 0);
        law(x, 0, "a");
        due("11: no darkening", x.far(0, 1, 0), 0);
    }

    // Promise 12: "f (what = 0), how far apart (1). BAD."
    private static void fairestAsks0Or1() {
        range("12: what", BoundaryTests::some, FAIREST, 3, 0, 1, 0, 1, 0, 0);
        DiscLines x = withLaw("g=3");
        law(x, 1, "0");
        due("12: f", x.fairest(0, 1, 0, 0), 3);
        due("12: how far apart", x.fairest(0, 1, 0, 1), 28);
        due("12: the other way about", x.fairest(1, 0, 0, 1), 28);
    }

    // Terms: "farthest apart, of like ones the least"
    private static void fairestOfLikeOnes() {
        DiscLines x = withLaw("1");
        due("12: all like, none apart", x.fairest(0, 0, 0, 0), 0);
        due("12: not apart", x.fairest(0, 0, 0, 1), 0);
        due("12: all like, 28 apart", x.fairest(0, 1, 0, 0), 0);
        law(x, 1, "g<2");
        due("12: 2 and 3 are like", x.fairest(0, 1, 0, 0), 2);
        law(x, 0, "g=1&d=7|g=3");
        law(x, 1, "g=2&d=7|g=3");
        due("12: 1 and 2 are like, either way apart", x.fairest(0, 1, 0, 0), 1);
        due("12: 1 and 2 are like, either way apart", x.fairest(1, 0, 0, 0), 1);
        due("12: by one line", x.fairest(1, 0, 0, 1), 1);
        due("12: empty laws", x.fairest(2, 3, 0, 1), 0);
        law(x, 2, "g>3");
        due("12: there is no f 4", x.fairest(2, 3, 0, 0), 0);
        due("12: there is no f 4", x.fairest(2, 3, 0, 1), 0);
    }

    // ---- observers, sheets

    // Terms: "a WEIGHT (0 .. 9)"
    private static void weightsAre0To9() {
        range("13: weight", BoundaryTests::some, OBSERVER, 1, 0, 9, 0, 0);
        range("13: weight", DiscLines::new, OBSERVER, 1, 0, 9, 3, 0);
    }

    // Promise 13: "FULL: 8." Terms: "OBSERVERS 0 .. 7, as they come"
    private static void observersAreFullAt8() {
        DiscLines x = new DiscLines();
        for (int i = 0; i < 8; i++) {
            due("13: the number", x.observer(3, 9), i);
        }
        due("13: full", x.observer(0, 0), -4);
        due("34: still 8", x.count(0), 8);
        due("14: the last one draws", x.sheet(7, 0, 0), 0);
        due("14: there is no ninth", x.sheet(8, 0, 0), -2);
        refused("13: full", BoundaryTests::full, OBSERVER, -4, 0, 0);
        refused("13: full", BoundaryTests::full, OBSERVER, -4, 3, 9);
    }

    // Terms: "OBSERVERS .. as they come": a number that has not come is BAD
    private static void observersAsTheyCome() {
        range("14: observer", BoundaryTests::some, SHEET, 0, 0, 2, 0, 7, 0);
        range("15: observer", BoundaryTests::some, DRAW, 0, 0, 2, 0, 7, 0, 0, 0, 0);
        range("16: observer", BoundaryTests::some, SHOW, 1, 0, 2, 0, 0, 7);
        refused("14: none has come", DiscLines::new, SHEET, -2, 0, 0, 0);
        refused("15: none has come", DiscLines::new, DRAW, -2, 0, 0, 0, 0, 0, 0);
        refused("16: none has come", DiscLines::new, SHOW, -2, 0, 0, 0);
    }

    // Terms: "on a NIGHT (0 .. 999 ..)"
    private static void nightsAre0To999() {
        Supplier<DiscLines> one = () -> withSheets();
        range("14: night", one, SHEET, 1, 0, 999, 0, 0, 0);
        range("15: night", one, DRAW, 1, 0, 999, 0, 0, 0, 0, 0, 0);
        range("16: night", BoundaryTests::some, SHOW, 2, 1, 999, 0, 0, 7);
        DiscLines x = withSheets();
        due("14: the first night", x.sheet(0, 0, 0), 0);
        due("14: the last night", x.sheet(0, 999, 0), 1);
        due("17: the first night", x.of(0, 2), 0);
        due("17: the last night", x.of(1, 2), 999);
        due("16: a sheet of the last night, on it", x.show(1, 0, 999), 1);
        due("16: and no later", x.show(1, 0, 1000), -2);
    }

    // Promise 14: "BAD: a NIGHT ahead of the last one's, too". Terms: "no earlier than that of the one told ahead"
    private static void nightsDoNotGoBack() {
        Supplier<DiscLines> one = () -> withSheets(1);
        refused("14: a night ahead", one, SHEET, -2, 0, 4, 0);
        refused("14: a night ahead, of another observer", one, SHEET, -2, 1, 4, 0);
        refused("15: a night ahead", one, DRAW, -2, 0, 4, 0, 0, 0, 0);
        refused("15: a night ahead, of another observer", one, DRAW, -2, 1, 4, 0, 0, 0, 0);
        accepted("14: the same night", one, SHEET, -2, 1, 5, 0);
        accepted("15: the same night", one, DRAW, -2, 1, 5, 0, 0, 0, 0);
        DiscLines x = withSheets(1);
        x.sheet(0, 7, 1);
        due("14: behind the first, ahead of the last", x.sheet(0, 6, 1), -2);
        x.show(0, 1, 900);
        due("14: a show's night counts not", x.sheet(0, 7, 1), 2);
        due("15: nor here", x.draw(1, 7, 0, 0, 0, 0), 3);
        due("14: a drawn one counts, too", x.sheet(0, 6, 1), -2);
    }

    // Promise 14: "A SHEET told". Terms: "A set of LINES is told as bits": of 28
    private static void linesToldAre28Bits() {
        range("14: lines", BoundaryTests::some, SHEET, 2, 0, ALL, 0, 7, 0);
        DiscLines x = withSheets(0, ALL);
        due("17: no line", x.of(0, 0), 0);
        due("17: all lines", x.of(1, 0), ALL);
        refused("14: bit 28", BoundaryTests::some, SHEET, -2, 0, 7, 1 << 28);
        refused("14: all bits", BoundaryTests::some, SHEET, -2, 0, 7, -1);
    }

    // Promise 14: "FULL: 16." Terms: "SHEETS 0 .. 15, as they come"
    private static void sheetsAreFullAt16() {
        DiscLines x = withSheets();
        for (int i = 0; i < 16; i++) {
            due("14: its number", x.sheet(i % 2, i, i), i);
        }
        due("14: full", x.sheet(0, 15, 1), -4);
        due("34: still 16", x.count(1), 16);
        due("17: the last one is as it was", x.of(15, 0), 15);
        due("17: there is no more", x.of(16, 0), -2);
        refused("14: full", BoundaryTests::full, SHEET, -4, 0, 999, 0);
        refused("14: full", BoundaryTests::full, SHEET, -4, 7, 999, ALL);
    }

    // Promise 15: "A SHEET that an OBSERVER draws: its number. BAD; FULL."
    private static void drawIsFullAt16() {
        DiscLines x = withSheets();
        law(x, 0, "d<3");
        for (int i = 0; i < 16; i++) {
            due("15: its number", x.draw(0, i, 3, 15, 3, 4), i);
        }
        due("15: full", x.draw(0, 15, 0, 0, 0, 0), -4);
        due("14: full by drawing", x.sheet(0, 15, 0), -4);
        due("34: still 16", x.count(1), 16);
        refused("15: full", BoundaryTests::full, DRAW, -4, 0, 999, 0, 0, 0, 0);
        refused("15: full", BoundaryTests::full, DRAW, -4, 7, 999, 3, 15, 3, 4);
    }

    // Terms: "SHEETS .. as they come": in an empty book no number is one
    private static void sheetsOfAnEmptyBook() {
        Supplier<DiscLines> empty = () -> withSheets();
        for (int s : new int[] {0, 1, 15, 16, -1, LEAST, MOST}) {
            refused("16: no sheet", empty, SHOW, -2, s, 0, 5);
            refused("17: no sheet", empty, OF, -2, s, 0);
            refused("18: no sheet", empty, AGREE, -2, s, 0, 0);
            refused("18: no sheet", empty, AGREE, -2, 0, s, 0);
            refused("19: no sheet", empty, CHANCE, -2, s, 0);
            refused("19: no sheet", empty, CHANCE, -2, 0, s);
            refused("22: no sheet", empty, TOOK, -2, s, 0);
            refused("26: no sheet", () -> oneGuess(withSheets()), ALLOWS, -2, 0, s);
        }
        range("16: sheet", BoundaryTests::some, SHOW, 0, 0, 3, 0, 0, 7);
        range("17: sheet", BoundaryTests::some, OF, 0, 0, 3, 0, 0);
    }

    private static DiscLines oneGuess(DiscLines x) {
        x.guess(0, 0, 0);
        return x;
    }

    // Terms: "SHOWN: a SHEET to an OBSERVER on a NIGHT no earlier than its own"
    private static void showsNoEarlierThanTheSheet() {
        Supplier<DiscLines> one = () -> withSheets(1);
        refused("16: the night ahead", one, SHOW, -2, 0, 1, 4);
        refused("16: night 0", one, SHOW, -2, 0, 1, 0);
        accepted("16: the same night", one, SHOW, -2, 0, 1, 5);
        DiscLines x = withSheets(1);
        x.sheet(1, 9, 2);
        due("16: on its own night, though a later sheet was told", x.show(0, 1, 5), 1);
        due("16: ahead of the later sheet's", x.show(1, 0, 8), -2);
        due("16: on the later sheet's", x.show(1, 0, 9), 2);
        due("16: nights of shows may go back", x.show(0, 0, 6), 3);
        due("16: to his own observer, too, and again", x.show(0, 0, 6), 4);
    }

    // Promise 16: "how many were. BAD; FULL: 60." Terms: "(60 in all)"
    private static void showsAreFullAt60() {
        DiscLines x = withSheets(1, 2);
        for (int i = 1; i <= 60; i++) {
            due("16: how many", x.show(i % 2, i / 2 % 2, 5 + i), i);
        }
        due("16: full", x.show(0, 0, 5), -4);
        due("34: still 60", x.count(2), 60);
        due("16: full for the other ones, too", x.show(1, 1, 999), -4);
        refused("16: full", BoundaryTests::full, SHOW, -4, 0, 0, 999);
        refused("16: full", BoundaryTests::full, SHOW, -4, 15, 7, 999);
    }

    // Terms: "all LINES of SHEETS shown to him by that NIGHT"
    private static void shownByThatNight() {
        DiscLines x = withSheets(lines(3), lines(4), lines(5));
        law(x, 1, "k");
        x.show(0, 1, 7);
        x.show(1, 1, 8);
        x.show(2, 0, 5);
        due("15: on the night ahead", x.draw(1, 6, 0, 0, 0, 0), 3);
        due("15: on the night", x.draw(1, 7, 0, 0, 0, 0), 4);
        due("15: on the night behind", x.draw(1, 8, 0, 0, 0, 0), 5);
        due("15: not yet shown", x.of(3, 0), 0);
        due("15: shown on that night", x.of(4, 0), lines(3));
        due("15: both", x.of(5, 0), lines(3, 4));
        due("17: not yet shown", x.of(3, 3), 0);
        due("17: shown on that night", x.of(4, 3), lines(3));
        due("17: both", x.of(5, 3), lines(3, 4));
        due("17: to the other one", x.of(0, 3), lines(5));
    }

    // Promise 17: "LINES (0), OBSERVER (1), NIGHT (2), what he was shown by then (3). BAD."
    private static void ofAsks0To3() {
        range("17: what", BoundaryTests::some, OF, 1, 0, 3, 0, 0);
        range("17: what", BoundaryTests::full, OF, 1, 0, 3, 15, 0);
        range("17: sheet", BoundaryTests::full, OF, 0, 0, 15, 0, 0);
        DiscLines x = full();
        due("17: the last one's lines", x.of(15, 0), ALL - 15);
        due("17: the last one's observer", x.of(15, 1), 7);
        due("17: the last one's night", x.of(15, 2), 999);
        due("17: what he was shown by night 999", x.of(15, 3), ALL - 7);
        due("17: by night 998", x.of(14, 3), 0);
    }

    // ---- agree, chance

    // Promise 18: "AGREE (0), BOTH SHOWN (1). BAD"
    private static void agreeAsks0Or1() {
        range("18: what", BoundaryTests::some, AGREE, 2, 0, 1, 0, 1, 0);
        range("18: the first", BoundaryTests::some, AGREE, 0, 0, 2, 0, 3, 0);
        range("18: the second", BoundaryTests::some, AGREE, 1, 0, 2, 3, 0, 0);
        refused("18: one more than came", BoundaryTests::some, AGREE, -2, 4, 0, 0);
        refused("18: one more than came", BoundaryTests::some, AGREE, -2, 0, 4, 0);
    }

    // Promise 18: "BAD: alike, too."
    private static void agreeOfLikeSheets() {
        for (int s = 0; s < 4; s++) {
            refused("18: alike", BoundaryTests::some, AGREE, -2, s, s, 0);
            refused("18: alike", BoundaryTests::some, AGREE, -2, s, s, 1);
        }
        due("18: two with like lines are two", withSheets(7, 7).agree(0, 1, 0), 3);
    }

    // Terms: "AGREE of two SHEETS: how many LINES are in both"
    private static void agreeOfNoneAndAll() {
        DiscLines x = withSheets(0, ALL, ALL, lines(27));
        due("18: none", x.agree(0, 1, 0), 0);
        due("18: all", x.agree(1, 2, 0), 28);
        due("18: the last line", x.agree(2, 3, 0), 1);
    }

    // Terms: "in SHEETS shown to both OBSERVERS by the NIGHTS of these SHEETS"
    private static void bothShownByTheirNights() {
        DiscLines x = withSheets(lines(1, 2), lines(2, 3));
        x.sheet(0, 8, lines(1, 2, 3));
        x.sheet(1, 9, ALL);
        x.show(0, 0, 8);
        x.show(1, 1, 10);
        due("18: to the second too late by one night", x.agree(2, 3, 1), 0);
        x.show(1, 1, 9);
        due("18: on its night, line 2 by two sheets", x.agree(2, 3, 1), 1);
        due("18: the other way about", x.agree(3, 2, 1), 1);
        x.show(1, 0, 9);
        due("18: to the first too late by one night", x.agree(2, 3, 1), 1);
        x.show(1, 0, 8);
        due("18: on its night, line 3, too", x.agree(2, 3, 1), 2);
        x.show(3, 0, 9);
        x.show(3, 1, 9);
        due("18: line 1 was shown to the first by night 8", x.agree(2, 3, 1), 3);
    }

    // Promise 19: "BAD: alike, too."
    private static void chanceOfLikeSheets() {
        for (int s = 0; s < 4; s++) {
            refused("19: alike", BoundaryTests::some, CHANCE, -2, s, s);
        }
        range("19: the first", BoundaryTests::some, CHANCE, 0, 0, 2, 0, 3);
        range("19: the second", BoundaryTests::some, CHANCE, 1, 0, 2, 3, 0);
        refused("19: one more than came", BoundaryTests::some, CHANCE, -2, 4, 0);
        refused("19: one more than came", BoundaryTests::some, CHANCE, -2, 0, 4);
    }

    private static void chanceIs(int first, int second, long above, long below) {
        DiscLines x = withSheets(first, second);
        String told = "19: " + Integer.toBinaryString(first) + " and " + Integer.toBinaryString(second);
        due(told, x.chance(0, 1), 1);
        due(told + ", above", x.part(0), above);
        due(told + ", below", x.part(1), below);
    }

    // Terms: "of all ways to choose as many LINES of 28 as the first has, in how many by how many at least so many are
    // in the second one"
    private static void chanceAtItsEnds() {
        int half = (1 << 14) - 1;
        chanceIs(0, 0, 1, 1);
        chanceIs(0, ALL, 1, 1);
        chanceIs(ALL, 0, 1, 1);
        chanceIs(ALL, ALL, 1, 1);
        chanceIs(ALL, 1, 1, 1);
        chanceIs(1, ALL, 1, 1);
        chanceIs(half, ALL ^ half, 1, 1);
        chanceIs(half, half, 1, 40116600);
        chanceIs(half, half ^ 1 ^ 1 << 27, 197, 40116600);
        // twenty and twenty share twelve at least
        chanceIs((1 << 20) - 1, ALL ^ 255, 1, 1);
        // just one of all choices of twenty is the second itself
        chanceIs((1 << 20) - 1, (1 << 20) - 1, 1, 3108105);
        chanceIs(ALL ^ 1, ALL ^ 1, 1, 28);
        chanceIs(ALL ^ 1, ALL ^ 2, 1, 1);
    }

    // Terms: "a fraction, lowest terms"
    private static void chanceInLowestTerms() {
        chanceIs(1, 3, 1, 14);
        chanceIs(1, 127, 1, 4);
        chanceIs(1, (1 << 27) - 1, 27, 28);
        // 6 of 28 and 20 of 378 pairs: 1 by 63
        chanceIs(3, 15, 1, 63);
        DiscLines x = withSheets(1, 2, 3);
        x.chance(0, 1);
        x.chance(0, 2);
        due("19: the fraction is the last one's, above", x.part(0), 1);
        due("19: the fraction is the last one's, below", x.part(1), 14);
        due("19: a refused one leaves it", x.chance(0, 3), -2);
        due("19: below is as it was", x.part(1), 14);
    }

    // Terms: "THE FRACTION is 0 by 1 at first."
    private static void fractionAtFirst() {
        DiscLines x = withSheets(1, 2);
        due("20: above at first", x.part(0), 0);
        due("20: below at first", x.part(1), 1);
    }

    // Promise 20: "above (0), below (1). BAD: -1."
    private static void partAsks0Or1() {
        rangeRefusedBy(-1, "20: what", BoundaryTests::some, PART, 0, 0, 1, 0);
        rangeRefusedBy(-1, "20: what", DiscLines::new, PART, 0, 0, 1, 0);
    }

    // ---- took

    // Promise 21: "OWN: what it was. BAD." Terms: "OWN, 0 .. 28; 3 at first"
    private static void ownIs0To28() {
        range("21: own", BoundaryTests::some, OWN, 0, 0, 28, 0);
        DiscLines x = new DiscLines();
        due("21: 3 at first", x.own(28), 3);
        due("21: 29 is refused", x.own(29), -2);
        due("21: the most was kept", x.own(0), 28);
        due("21: -1 is refused", x.own(-1), -2);
        due("21: the least was kept", x.own(3), 0);
    }

    // Terms: "of its own (COST: how many LINES it has, and OWN)"
    private static void costOfItsOwn() {
        DiscLines x = withSheets(0, ALL);
        due("22: no line and 3", x.took(0, 1), 3);
        due("22: all and 3", x.took(1, 1), 31);
        x.own(0);
        due("22: no line and 0", x.took(0, 1), 0);
        x.own(28);
        due("22: all and 28", x.took(1, 1), 56);
        x.show(0, 0, 5);
        due("22: 28 unlike ones cost less", x.took(1, 1), 28);
        due("22: so it was taken", x.took(1, 0), 1);
        x.own(0);
        due("22: of its own costs as much", x.took(1, 0), OWN_BIT | 1);
    }

    // Terms: "took from one that .. was told ahead of it"
    private static void tookFromOneToldAhead() {
        DiscLines x = withSheets(7, 7, 7);
        for (int s = 0; s < 3; s++) {
            x.show(s, 0, 5);
        }
        due("22: none is ahead of the first, not it itself either", x.took(0, 0), OWN_BIT);
        due("22: its cost", x.took(0, 1), 6);
        due("22: the first is ahead of the second", x.took(1, 0), 1);
        due("22: the one behind is not", x.took(1, 1), 0);
        due("22: two are ahead of the third", x.took(2, 0), 3);
    }

    // Terms: "from one that was shown to its OBSERVER by its NIGHT"
    private static void tookFromOneShownByItsNight() {
        DiscLines x = withSheets(7);
        x.sheet(1, 8, 7);
        due("22: not shown", x.took(1, 0), OWN_BIT);
        x.show(0, 0, 5);
        due("22: shown to another", x.took(1, 0), OWN_BIT);
        x.show(0, 1, 9);
        due("22: shown too late by a night", x.took(1, 0), OWN_BIT);
        x.show(0, 1, 8);
        due("22: shown on its night", x.took(1, 0), 1);
    }

    // Terms: "MAY HAVE: all with the least COST, as bits of SHEETS (bit 16: of its own); SURE, if it is one"
    private static void mayHaveOfLikeCosts() {
        DiscLines x = withSheets();
        for (int i = 0; i < 16; i++) {
            x.sheet(0, 5, 0);
        }
        for (int i = 0; i < 16; i++) {
            x.show(i, 0, 5);
        }
        due("22: all ahead of the last one", x.took(15, 0), (1 << 15) - 1);
        due("22: not sure", x.took(15, 2), 0);
        due("22: sure of one", x.took(1, 2), 1);
        due("22: sure of its own", x.took(0, 2), 1);
        due("22: two are not sure", x.took(2, 2), 0);
        x.own(0);
        due("22: and of its own", x.took(15, 0), OWN_BIT | (1 << 15) - 1);
        due("22: one and its own are not sure", x.took(1, 2), 0);
        due("22: its own alone is", x.took(0, 2), 1);
    }

    // Promise 22: "MAY HAVE (0), the least COST (1), SURE (2: 1, 0), OLDEST (3). BAD."
    private static void tookAsks0To3() {
        range("22: what", BoundaryTests::some, TOOK, 1, 0, 3, 0, 0);
        range("22: sheet", BoundaryTests::some, TOOK, 0, 0, 3, 0, 0);
        range("22: sheet", BoundaryTests::full, TOOK, 0, 0, 15, 0, 3);
    }

    // Terms: "on and on, the SHEET at which it ends"
    private static void oldestOfALongChain() {
        DiscLines x = withSheets();
        for (int i = 0; i < 16; i++) {
            x.sheet(0, i, (1 << i + 10) - 1);
            x.show(i, 0, i);
        }
        for (int i = 1; i < 16; i++) {
            due("22: from the one ahead", x.took(i, 0), 1 << i - 1);
            due("22: ends at the first", x.took(i, 3), 0);
        }
        due("22: the first is its own", x.took(0, 3), 0);
    }

    // Terms: "(of its own ahead of all)"
    private static void oldestOfItsOwnAheadOfAll() {
        DiscLines x = withSheets(lines(1, 2, 3), lines(4), 0);
        for (int s = 0; s < 3; s++) {
            x.show(s, 0, 5);
        }
        x.own(1);
        due("22: its own or from 1", x.took(2, 0), OWN_BIT | 2);
        due("22: its own goes ahead", x.took(2, 3), 2);
        x.own(2);
        due("22: from 1 alone", x.took(2, 0), 2);
        due("22: which is of its own", x.took(2, 3), 1);
    }

    // Terms: "by taking from the least number of MAY HAVE"
    private static void oldestByTheLeastNumber() {
        DiscLines x = withSheets(lines(1), lines(2), lines(1, 2));
        x.show(0, 0, 5);
        x.show(1, 0, 5);
        due("22: from 0 or 1", x.took(2, 0), 3);
        due("22: the least", x.took(2, 3), 0);
    }

    // Promise 23: "WAYS. (1 without SHEETS.)"
    private static void waysWithoutSheets() {
        due("23: a new one", new DiscLines().ways(), 1);
        DiscLines x = oneGuess(withSheets());
        x.own(0);
        due("23: with observers, no sheets", x.ways(), 1);
    }

    // Terms: "WAYS: in how many ways all SHEETS so, product of these": beyond an int
    private static void waysOfAllSheets() {
        DiscLines x = withSheets();
        long product = 1;
        for (int i = 0; i < 16; i++) {
            x.sheet(0, 5, 0);
            x.show(i, 0, 5);
            product *= i + 1;
        }
        due("23: 15 ahead, then 14 ..", x.ways(), product / 16);
        x.own(0);
        due("23: of its own, too", x.ways(), product);
        due("23: that is no int", product > MOST ? 1 : 0, 1);
    }

    // ---- guesses

    // Promise 24: "FULL: 12." Terms: "GUESSES 0 .. 11, as they come"
    private static void guessesAreFullAt12() {
        DiscLines x = new DiscLines();
        for (int i = 0; i < 12; i++) {
            due("24: its number", x.guess(3, 3, 3), i);
        }
        due("24: full", x.guess(0, 0, 0), -4);
        due("34: still 12", x.count(3), 12);
        due("27: all of them", x.mayBe(0), 4095);
        refused("24: full", BoundaryTests::full, GUESS, -4, 0, 0, 0);
        refused("24: full", BoundaryTests::full, GUESS, -4, 3, 3, 3);
    }

    // Promise 25: "ERROR: what it was. BAD." Terms: "ERROR LINES .. (0 .. 28; 2 at first)"
    private static void errorIs0To28() {
        range("25: error", BoundaryTests::some, ERROR, 0, 0, 28, 0);
        DiscLines x = new DiscLines();
        due("25: 2 at first", x.error(28), 2);
        due("25: 29 is refused", x.error(29), -2);
        due("25: the most was kept", x.error(0), 28);
        due("25: -1 is refused", x.error(-1), -2);
        due("25: the least was kept", x.error(2), 0);
    }

    // Terms: "is unlike it in ERROR LINES at most"
    private static void errorLinesAtMost() {
        DiscLines x = oneGuess(withSheets(0, lines(0), lines(0, 1), lines(0, 1, 27), ALL));
        int[] unlike = {0, 1, 2, 3, 28};
        for (int error : new int[] {0, 1, 2, 3, 27, 28}) {
            x.error(error);
            for (int s = 0; s < 5; s++) {
                due("26: " + unlike[s] + " with error " + error, x.allows(0, s), unlike[s] <= error ? 1 : 0);
            }
        }
        law(x, 0, "1");
        x.error(27);
        due("26: 28 lines more", x.allows(0, 0), 0);
        due("26: 27 lines more", x.allows(0, 1), 1);
    }

    // Terms: "(no DARKENING, no AIR, what its OBSERVER was shown by its NIGHT)"
    private static void allowsWithoutDarkeningAndAir() {
        DiscLines x = withSheets(lines(7, 8, 9, 10, 11, 12), lines(27));
        law(x, 0, "a=9|k");
        x.shade(0, 10, 9);
        x.green(0, 1, 2);
        x.guess(0, 0, 0);
        x.error(0);
        due("26: neither darker nor moved", x.allows(0, 0), 1);
        x.show(1, 0, 6);
        due("26: shown too late by a night", x.allows(0, 0), 1);
        x.show(1, 0, 5);
        due("26: shown by its night", x.allows(0, 0), 0);
        due("27: told apart by that", x.mayBe(1), 0);
        x.error(1);
        due("26: by one line", x.allows(0, 0), 1);
    }

    // Promise 26: "Whether a GUESS ALLOWS a SHEET: 1, 0. BAD."
    private static void allowsOfNumbersThatCame() {
        range("26: guess", BoundaryTests::some, ALLOWS, 0, 0, 2, 0, 0);
        range("26: sheet", BoundaryTests::some, ALLOWS, 1, 0, 3, 0, 0);
        range("26: guess", BoundaryTests::full, ALLOWS, 0, 0, 11, 0, 0);
        range("26: sheet", BoundaryTests::full, ALLOWS, 1, 0, 15, 0, 0);
        refused("26: no guess", () -> withSheets(1), ALLOWS, -2, 0, 0);
        refused("26: neither", DiscLines::new, ALLOWS, -2, 0, 0);
        // one more by 32 would be the same bit
        refused("26: sheet 32", BoundaryTests::full, ALLOWS, -2, 0, 32);
    }

    // Promise 27: "MAY BE by SHEETS (bits). BAD."
    private static void mayBeBySheetsThatCame() {
        range("27: sheets", BoundaryTests::some, MAY_BE, 0, 0, 15, 0);
        range("27: sheets", BoundaryTests::full, MAY_BE, 0, 0, 65535, 0);
        range("27: sheets", () -> oneGuess(withSheets(1)), MAY_BE, 0, 0, 1, 0);
        range("27: sheets", () -> oneGuess(withSheets()), MAY_BE, 0, 0, 0, 0);
        refused("27: its own bit is no sheet", BoundaryTests::full, MAY_BE, -2, OWN_BIT);
    }

    // Terms: "MAY BE: GUESSES that ALLOW all SHEETS told as asked": of no sheet all, and none without guesses
    private static void mayBeOfNothing() {
        due("27: no guess, no sheet", new DiscLines().mayBe(0), 0);
        due("27: no guess", withSheets(1).mayBe(1), 0);
        DiscLines x = oneGuess(withSheets(ALL));
        x.guess(1, 1, 1);
        due("27: no sheet asked", x.mayBe(0), 3);
        due("27: none allows it", x.mayBe(1), 0);
        x.error(28);
        due("27: all allow it", x.mayBe(1), 3);
    }

    // Promise 28: "in all (0), in some (1) by SHEETS. .. BAD."
    private static void thereAsks0Or1() {
        range("28: what", BoundaryTests::some, THERE, 1, 0, 1, 0, 0);
        range("28: sheets", BoundaryTests::some, THERE, 0, 0, 15, 0, 0);
        range("28: sheets", BoundaryTests::full, THERE, 0, 0, 65535, 0, 0);
        refused("28: bad without guesses", DiscLines::new, THERE, -2, 0, 2);
        refused("28: bad without guesses", DiscLines::new, THERE, -2, 1, 0);
    }

    // Promise 28: "NONE: none MAY BE."
    private static void thereOfNone() {
        refused("28: no guess", DiscLines::new, THERE, -1, 0, 0);
        refused("28: no guess", DiscLines::new, THERE, -1, 0, 1);
        refused("28: none allows it", () -> oneGuess(withSheets(ALL)), THERE, -1, 1, 0);
        refused("28: none allows it", () -> oneGuess(withSheets(ALL)), THERE, -1, 1, 1);
        due("28: one may be, nothing is there", oneGuess(withSheets(ALL)).there(0, 0), 0);
        due("28: one may be, nothing is there", oneGuess(withSheets(ALL)).there(0, 1), 0);
    }

    // Terms: "LINES that are DRAWN by LAW 0 through GLASS 0 .. in all of these, in some"
    private static void thereInAllAndInSome() {
        DiscLines x = withLaw("a&b&g=0&!k");
        law(x, 3, "0");
        for (int world = 0; world < 4; world++) {
            x.shade(world, 60, 1);
            x.shade(world, 70, 1);
            x.shade(world, 10 * world, 1);
            x.guess(world, 3, 3);
        }
        due("28: in all four", x.there(0, 0), lines(27));
        due("28: in some", x.there(0, 1), lines(5, 6, 11, 12, 16, 17, 20, 21, 27));
        law(x, 0, "1");
        due("28: all in all", x.there(0, 0), ALL);
        due("28: all in some", x.there(0, 1), ALL);
        law(x, 0, "a=9");
        for (int world = 0; world < 4; world++) {
            x.shade(world, 0, 9);
            x.green(world, 0, 1);
        }
        due("28: neither darker nor moved", x.there(0, 0), 127);
    }

    // Promise 29: "10 times the GLASS and the LAW (0), in how many ways (1). .. BAD."
    private static void partsAsks0Or1() {
        range("29: what", BoundaryTests::some, PARTS, 1, 0, 1, 0, 0);
        range("29: sheets", BoundaryTests::some, PARTS, 0, 0, 15, 0, 0);
        range("29: sheets", BoundaryTests::full, PARTS, 0, 0, 65535, 0, 0);
        refused("29: bad without guesses", DiscLines::new, PARTS, -2, 0, 2);
        refused("29: bad without guesses", DiscLines::new, PARTS, -2, 1, 0);
    }

    // Promise 29: "NONE: none MAY BE."
    private static void partsOfNone() {
        refused("29: no guess", DiscLines::new, PARTS, -1, 0, 0);
        refused("29: no guess", DiscLines::new, PARTS, -1, 0, 1);
        refused("29: none allows it", () -> oneGuess(withSheets(ALL)), PARTS, -1, 1, 0);
        refused("29: none allows it", () -> oneGuess(withSheets(ALL)), PARTS, -1, 1, 1);
    }

    private static DiscLines twoWorlds() {
        DiscLines x = new DiscLines();
        x.shade(0, 0, 15);
        x.guess(0, 0, 0);
        x.guess(3, 0, 0);
        return x;
    }

    // Terms: "of like ones the least GLASS, then LAW"
    private static void partsOfLikeOnes() {
        DiscLines x = twoWorlds();
        due("29: nothing parts them: the least of all", x.parts(0, 0), 0);
        law(x, 3, "a&g=3");
        due("29: 15 by 16 is 0", x.parts(0, 0), 0);
        law(x, 3, "a&g=1");
        due("29: glass 1, law 3", x.parts(0, 0), 13);
        law(x, 0, "a&g=2");
        due("29: the least glass ahead of the least law", x.parts(0, 0), 13);
        law(x, 2, "a&g=1");
        due("29: then the least law", x.parts(0, 0), 12);
        due("29: two ways", x.parts(0, 1), 2);
        x.shade(0, 1, 1);
        law(x, 0, "0");
        law(x, 2, "0");
        law(x, 3, "a&g=3");
        due("29: 16 by 16 is 1: the last pair", x.parts(0, 0), 33);
        x.shade(0, 10, 15);
        law(x, 3, "a&g>3");
        due("29: there is no glass 4", x.parts(0, 1), 1);
    }

    // Terms: PARTS "(no DARKENING, no AIR, nothing shown)"
    private static void partsOfPlainPictures() {
        DiscLines x = twoWorlds();
        law(x, 3, "a=1");
        x.shade(0, 0, 0);
        x.green(0, 0, 1);
        due("29: not darker", x.parts(0, 1), 1);
        x.shade(0, 1, 1);
        due("29: not moved: glass 0 does not part them", x.parts(0, 1), 1);
        x.shade(0, 0, 1);
        law(x, 3, "a&k");
        due("29: nothing shown", x.parts(0, 1), 1);
        law(x, 3, "a&!k");
        due("29: nothing shown, law 3 parts them", x.parts(0, 0), 3);
        law(x, 0, "a");
        due("29: law 0 parts them", x.parts(0, 0), 0);
        law(x, 3, "");
        due("29: law 0 parts them", x.parts(0, 1), 2);
    }

    // Terms: "DRAWN .. in the most unlike ways"
    private static void partsOfOneAndOfFourWorlds() {
        DiscLines x = withLaw("a=1");
        law(x, 1, "a");
        law(x, 2, "b|a");
        for (int world = 0; world < 4; world++) {
            x.guess(world, 3, 0);
            x.guess(world, 3, 1);
            x.shade(world, 10 * world, world);
        }
        // law 0 draws of mark 1 alone in world 1; law 1 of no mark, or of mark 1, 2 or 3
        due("29: four worlds in four ways", x.parts(0, 1), 4);
        due("29: by the least pair that has four", x.parts(0, 0), 1);
        DiscLines y = new DiscLines();
        y.guess(2, 0, 0);
        y.guess(2, 1, 1);
        due("29: one world told twice is one way", y.parts(0, 1), 1);
        due("29: by the least pair", y.parts(0, 0), 0);
    }

    // ---- weighed, season

    // Promise 30: "LINES (0), SURE ones (1), the number of a LINE (what = 10 and the LINE). BAD: -1000."
    private static void weighedAsks() {
        rangeRefusedBy(-1000, "30: what", BoundaryTests::some, WEIGHED, 0, 0, 1, 0);
        rangeRefusedBy(-1000, "30: what", BoundaryTests::full, WEIGHED, 0, 10, 37, 0);
        for (int what = 2; what < 10; what++) {
            refused("30: between", BoundaryTests::some, WEIGHED, -1000, what);
        }
        refused("30: what less 10 would wrap", BoundaryTests::some, WEIGHED, -1000, LEAST + 9);
    }

    // Promise 30, of an empty book
    private static void weighedOfAnEmptyBook() {
        for (DiscLines x : new DiscLines[] {new DiscLines(), withSheets()}) {
            due("30: no line", x.weighed(0), 0);
            due("30: no sure one", x.weighed(1), 0);
            due("30: the first line", x.weighed(10), 0);
            due("30: the last line", x.weighed(37), 0);
        }
    }

    // Terms: "WEIGHTS of OBSERVERS by SHEETS that have it together, less those of SHEETS that have it not"
    private static void weighedAtItsEnds() {
        DiscLines x = new DiscLines();
        x.observer(0, 9);
        for (int i = 0; i < 16; i++) {
            x.sheet(0, 0, lines(27));
        }
        due("30: 16 times 9", x.weighed(37), 144);
        due("30: 16 times 9 less", x.weighed(10), -144);
        due("30: the last line alone", x.weighed(0), lines(27));
        due("30: and surely", x.weighed(1), lines(27));
    }

    // Terms: "LINES above 0"
    private static void weighedAboveNought() {
        DiscLines x = new DiscLines();
        x.observer(0, 4);
        x.observer(0, 3);
        x.observer(0, 1);
        x.sheet(0, 0, lines(0, 1));
        x.sheet(1, 0, lines(2));
        x.sheet(2, 0, lines(1, 2));
        due("30: just 0", x.weighed(10), 0);
        due("30: 2 above", x.weighed(11), 2);
        due("30: 0 from the other side", x.weighed(12), 0);
        due("30: that above 0 alone", x.weighed(0), lines(1));
        x.sheet(2, 0, 0);
        due("30: 1 below", x.weighed(10), -1);
        due("30: 1 above", x.weighed(11), 1);
        due("30: still that alone", x.weighed(0), lines(1));
    }

    // Terms: "SURE ones: of these those in which this is no less than half of all WEIGHTS by SHEETS"
    private static void sureAtJustHalf() {
        DiscLines x = new DiscLines();
        x.observer(0, 6);
        x.observer(0, 1);
        x.sheet(0, 0, lines(0, 1));
        x.sheet(1, 0, lines(1));
        x.sheet(1, 0, 0);
        due("30: 4 of 8", x.weighed(10), 4);
        due("30: just half", x.weighed(1), lines(0, 1));
        x.sheet(1, 0, lines(1));
        due("30: 3 of 9", x.weighed(10), 3);
        due("30: 7 of 9", x.weighed(11), 7);
        due("30: less than half", x.weighed(1), lines(1));
        DiscLines y = new DiscLines();
        y.observer(0, 5);
        y.observer(0, 2);
        y.sheet(0, 0, 1);
        y.sheet(1, 0, 0);
        due("30: 3 of 7", y.weighed(10), 3);
        due("30: 3 is less than half of 7", y.weighed(1), 0);
    }

    // Terms: "of these" (those above 0): where all WEIGHTS are 0 no line is
    private static void sureNeedsMoreThanNought() {
        DiscLines x = new DiscLines();
        x.observer(0, 0);
        x.sheet(0, 0, ALL);
        due("30: 0", x.weighed(10), 0);
        due("30: no line", x.weighed(0), 0);
        due("30: no sure one", x.weighed(1), 0);
    }

    // Promise 31: "SEASON of two sets of SHEETS .. BAD."
    private static void seasonOfSheetsThatCame() {
        range("31: first", BoundaryTests::some, SEASON, 0, 1, 7, 0, 8);
        range("31: second", BoundaryTests::some, SEASON, 1, 1, 7, 8, 0);
        refused("31: one more than came", BoundaryTests::some, SEASON, -2, 16, 1);
        refused("31: one more than came", BoundaryTests::some, SEASON, -2, 1, 16);
        refused("31: an empty book", DiscLines::new, SEASON, -2, 1, 2);
        refused("31: bit 16", BoundaryTests::full, SEASON, -2, OWN_BIT, 1);
        refused("31: bit 16", BoundaryTests::full, SEASON, -2, 1, OWN_BIT);
        DiscLines x = full();
        due("31: the last one, none of the others", x.season(1 << 15, (1 << 15) - 1), 0);
        due("31: all but the last", x.season((1 << 15) - 1, 1 << 15), 0);
        due("31: the first and the last", x.season(1, 1 << 15), 15);
        due("31: all the rest", withSheets(ALL, 0).season(1, 2), ALL);
    }

    // Promise 31: "(none in both ..)"
    private static void seasonOfNoneInBoth() {
        refused("31: the same", BoundaryTests::some, SEASON, -2, 1, 1);
        refused("31: one in both", BoundaryTests::some, SEASON, -2, 3, 6);
        refused("31: all in both", BoundaryTests::some, SEASON, -2, 15, 15);
        refused("31: the last in both", BoundaryTests::full, SEASON, -2, 65535, 1 << 15);
        accepted("31: none in both", BoundaryTests::some, SEASON, -2, 5, 10);
    }

    // Promise 31: "(.. each of one at least)"
    private static void seasonOfOneAtLeast() {
        refused("31: no first", BoundaryTests::some, SEASON, -2, 0, 1);
        refused("31: no second", BoundaryTests::some, SEASON, -2, 1, 0);
        refused("31: neither", BoundaryTests::some, SEASON, -2, 0, 0);
        due("31: one each", withSheets(7, 5).season(1, 2), 2);
    }

    // ---- images, counts, digest

    // Promise 32: "An IMAGE is kept: 1. BAD." Promise 33: "BAD". Terms: "IMAGES 0, 1"
    private static void imagesAre0And1() {
        range("32: image", BoundaryTests::some, IMAGE, 0, 0, 1, 0);
        range("33: from", BoundaryTests::some, FROM, 0, 0, 1, 0);
        due("32: kept", new DiscLines().image(0), 1);
        due("32: kept", new DiscLines().image(1), 1);
    }

    // Promise 33: "NO: none was kept."
    private static void fromOneThatWasNotKept() {
        refused("33: none", DiscLines::new, FROM, -3, 0);
        refused("33: none", DiscLines::new, FROM, -3, 1);
        refused("33: none", BoundaryTests::full, FROM, -3, 0);
        refused("33: none", BoundaryTests::full, FROM, -3, 1);
        DiscLines x = new DiscLines();
        x.image(1);
        due("33: the other one was kept", x.from(0), -3);
        due("33: that one was", x.from(1), 1);
        x.image(2);
        due("33: a refused one keeps nothing", x.from(0), -3);
    }

    // Terms: "IMAGES 0, 1 keep all but them"
    private static void imagesKeepAllButThem() {
        DiscLines x = new DiscLines();
        long fresh = x.digest();
        x.image(0);
        x.own(9);
        long nine = x.digest();
        x.image(1);
        x.from(0);
        due("33: as new", x.digest(), fresh);
        due("33: image 1 was kept behind it, and stays", x.from(1), 1);
        due("33: as kept", x.digest(), nine);
        DiscLines y = full();
        long all = y.digest();
        y.image(0);
        for (int law = 0; law < 4; law++) {
            law(y, law, "1");
            y.shade(law, 80, 15);
            y.green(law, 8, 511);
        }
        y.mark(7, 80);
        y.own(28);
        y.error(28);
        y.from(0);
        due("33: a full one", y.digest(), all);
        due("33: full again", y.write(3, 49), -4);
        due("33: its laws, too", y.fault(0), 1);
    }

    /** Fills each part of a new object, all rows as long for either v (0, 1), with numbers that hang on v. */
    private static void fill(DiscLines x, int v) {
        for (int w = 0; w < 4; w++) {
            x.shade(w, 80 - v, w + v + 1);
            x.green(w, 8 - v, w + v + 1);
            law(x, w, v == 0 ? "k|a>9" : "!a&d=7");
        }
        x.mark(7, 79 + v);
        x.observer(v, 5 + v);
        x.observer(1 - v, 3 + v);
        for (int i = 0; i < 4; i++) {
            x.sheet((i + v) % 2, 10 * i + v, 5 + 2 * v + i);
            x.show(i, (i + v + 1) % 2, 10 * i + 5 * v + 1);
            x.show(v, v, 50 + v);
            x.guess((i + v) % 4, (i + 2 * v) % 4, (i + 3 * v) % 4);
        }
        x.own(20 + v);
        x.error(10 + v);
    }

    // Terms: "IMAGES 0, 1 keep all": each number of each row, though the rows are as long
    private static void imagesOfRowsAsLong() {
        DiscLines x = new DiscLines();
        x.image(0);
        fill(x, 0);
        long[] first = new long[40];
        long[] second = new long[40];
        long[] again = new long[40];
        look(x, first, 0);
        x.image(1);
        x.from(0);
        fill(x, 1);
        look(x, second, 0);
        x.image(0);
        x.from(1);
        look(x, again, 0);
        due("33: all is as in the first", Arrays.equals(first, again) ? 1 : 0, 1);
        x.from(0);
        look(x, again, 0);
        due("33: all is as in the second", Arrays.equals(second, again) ? 1 : 0, 1);
    }

    // Terms: "keep all but them and THE FRACTION"
    private static void imagesDoNotKeepTheFraction() {
        DiscLines x = withSheets(1, 3);
        x.image(0);
        x.chance(0, 1);
        due("33: back", x.from(0), 1);
        due("20: the fraction stays, above", x.part(0), 1);
        due("20: the fraction stays, below", x.part(1), 14);
        x.image(1);
        x.chance(1, 0);
        x.sheet(0, 5, 1);
        x.chance(0, 2);
        x.from(1);
        due("20: the last one stays", x.part(1), 28);
    }

    // Terms: "it goes on from one": the image is as it was, however often
    private static void imagesStayAsTheyWere() {
        DiscLines x = withSheets(1, 2);
        x.image(0);
        long kept = x.digest();
        for (int i = 0; i < 3; i++) {
            x.sheet(1, 9, 7);
            x.shade(0, 0, i + 1);
            x.write(0, 49);
            x.guess(1, 1, 1);
            x.observer(0, 0);
            x.show(0, 1, 9);
            due("33: again", x.from(0), 1);
            due("33: as kept", x.digest(), kept);
        }
        x.own(20);
        x.image(0);
        x.own(21);
        x.from(0);
        due("32: kept anew in its place", x.own(0), 20);
        due("14: it goes on", x.sheet(0, 5, 0), 2);
    }

    // Promise 34: "0 OBSERVERS, 1 SHEETS, 2 shown, 3 GUESSES. BAD."
    private static void countAsks0To3() {
        range("34: what", BoundaryTests::some, COUNT, 0, 0, 3, 0);
        range("34: what", DiscLines::new, COUNT, 0, 0, 3, 0);
    }

    // Promise 34: "How many", of none and of full rows
    private static void countAtItsEnds() {
        int[] most = {8, 16, 60, 12};
        DiscLines x = new DiscLines();
        DiscLines y = full();
        for (int what = 0; what < 4; what++) {
            due("34: none", x.count(what), 0);
            due("34: full", y.count(what), most[what]);
        }
    }

    // Terms: "Refused, changing nothing, the first of: BAD -2 ..; NO -3 as told; FULL -4."
    private static void badAheadOfNoAndFull() {
        refused("33: bad ahead of no", BoundaryTests::full, FROM, -2, 2);
        refused("33: bad ahead of no", DiscLines::new, FROM, -2, -1);
        refused("7: bad ahead of full", BoundaryTests::full, WRITE, -2, 3, 128);
        refused("7: bad ahead of full", BoundaryTests::full, WRITE, -2, 3, -1);
        refused("13: bad ahead of full", BoundaryTests::full, OBSERVER, -2, 4, 0);
        refused("13: bad ahead of full", BoundaryTests::full, OBSERVER, -2, 0, 10);
        int[][] sheets = {{8, 999, 0}, {-1, 999, 0}, {0, 998, 0}, {0, 1000, 0}, {0, 999, -1}, {0, 999, ALL + 1}};
        for (int[] b : sheets) {
            refused("14: bad ahead of full", BoundaryTests::full, SHEET, -2, b);
        }
        int[][] draws = {{8, 999, 0, 0, 0, 0}, {0, 998, 0, 0, 0, 0}, {0, 1000, 0, 0, 0, 0}, {0, 999, 4, 0, 0, 0},
            {0, 999, 0, 16, 0, 0}, {0, 999, 0, 0, 4, 0}, {0, 999, 0, 0, 0, 5}, {0, 999, 0, 0, 0, -1}};
        for (int[] b : draws) {
            refused("15: bad ahead of full", BoundaryTests::full, DRAW, -2, b);
        }
        int[][] shows = {{16, 0, 999}, {-1, 0, 999}, {0, 8, 999}, {0, -1, 999}, {15, 0, 998}, {0, 0, 1000}};
        for (int[] b : shows) {
            refused("16: bad ahead of full", BoundaryTests::full, SHOW, -2, b);
        }
        for (int at = 0; at < 3; at++) {
            int[] b = new int[3];
            b[at] = 4;
            refused("24: bad ahead of full", BoundaryTests::full, GUESS, -2, b);
        }
    }

    private static long mixed(long h, int... row) {
        long sum = h;
        for (int v : row) {
            sum = 31 * sum + v;
        }
        return sum;
    }

    // Promise 35: "h = 431; then h = 31 h + v for each v", of an empty book and empty laws
    private static void digestOfANewObject() {
        long h = mixed(431, new int[4 + 4 * 90]);
        h = mixed(h, 0, 10, 20, 30, 40, 50, 60, 70);
        h = mixed(h, 0, 0, 0, 0);
        h = mixed(h, 3, 2, 0, 1);
        due("35: new", new DiscLines().digest(), h);
    }

    // Promise 35, of an object with every row full: the sum wraps
    private static void digestOfAFullOne() {
        DiscLines x = full();
        x.shade(3, 80, 15);
        x.green(3, 8, 511);
        x.mark(0, 80);
        x.own(28);
        x.error(28);
        x.chance(0, 1);
        long h = mixed(431, 8, 16, 60, 12);
        h = mixed(h, new int[350]);
        h = mixed(h, 15, 0, 0, 0, 0, 0, 0, 0, 0, 511);
        h = mixed(h, 80, 10, 20, 30, 40, 50, 60, 70);
        h = mixed(h, 0, 0, 0, 40);
        for (int i = 0; i < 40; i++) {
            h = mixed(h, 127 - i);
        }
        for (int i = 0; i < 8; i++) {
            h = mixed(h, i % 4, 9 - i);
        }
        for (int i = 0; i < 16; i++) {
            h = mixed(h, ALL - i, i % 8, 984 + i);
        }
        for (int i = 0; i < 60; i++) {
            h = mixed(h, i % 16, i % 8, 999);
        }
        h = mixed(h, 28);
        for (int i = 0; i < 12; i++) {
            h = mixed(h, i % 4, (i + 1) % 4, (i + 2) % 4);
        }
        h = mixed(h, 28, 1, 1);
        due("35: full", x.digest(), h);
    }

    // Promises 5, 6, 9 to 12, 17, 18, 20, 22, 23, 26 to 31, 34, 35: they tell, and change nothing
    private static void readingChangesNothing() {
        DiscLines x = some();
        for (int v = 0; v < 2; v++) {
            x.seen(v, 3, 2, 1, 44);
            x.line(v, 5);
            x.fault(v);
            x.drawn(v, 1, 5, 2, 3, 77);
            x.far(v, 2, 3);
            x.fairest(0, 1, 2, v);
            x.of(2, v + 2);
            x.agree(0, 2, v);
            x.part(v);
            x.took(3, v + 2);
            x.allows(v, 2);
            x.mayBe(v + 2);
            x.there(v, v);
            x.parts(v, v);
            x.weighed(v);
            x.weighed(v + 30);
            x.season(1, v + 2);
            x.count(v);
        }
        x.ways();
        x.digest();
        due("no call that tells changes", Arrays.equals(portrait(x), portrait(some())) ? 1 : 0, 1);
    }

    // What it is: "An object is used for at most 512 calls after it has been made"
    private static void calls512() {
        DiscLines x = new DiscLines();
        for (int i = 0; i < 511; i++) {
            due("21: call " + (i + 1), x.own(i % 29), i == 0 ? 3 : (i - 1) % 29);
        }
        due("21: call 512", x.own(0), 510 % 29);
    }
}
