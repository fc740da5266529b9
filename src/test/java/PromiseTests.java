/** For each promise of the document answers worked out by hand: ordinary ones, edges, wrong inputs. */
public final class PromiseTests {
    private static final int ALL = (1 << 28) - 1;
    private static final int LEAST = Integer.MIN_VALUE;
    private static final int MOST = Integer.MAX_VALUE;
    private static int wrong = 0;

    public static void main(String[] args) {
        newObject();
        shade();
        green();
        mark();
        seen();
        line();
        writeAndErase();
        fault();
        drawn();
        valuesOfLaws();
        far();
        fairest();
        observer();
        sheet();
        draw();
        show();
        of();
        agree();
        chance();
        part();
        own();
        took();
        ways();
        guess();
        error();
        allows();
        mayBe();
        there();
        parts();
        weighed();
        season();
        images();
        imagesOfUnlikePasts();
        count();
        digest();
        System.out.println(wrong == 0 ? "all promises hold" : wrong + " answers are not as due");
        if (wrong != 0) {
            System.exit(1);
        }
    }

    private static void due(String what, long got, long want) {
        if (got != want) {
            wrong++;
            System.out.println(what + " answered " + got + ", due is " + want);
        }
    }

    private static void law(DiscLines x, int law, String text) {
        x.erase(law);
        for (int i = 0; i < text.length(); i++) {
            x.write(law, text.charAt(i));
        }
    }

    private static int lines(int... numbers) {
        int bits = 0;
        for (int n : numbers) {
            bits |= 1 << n;
        }
        return bits;
    }

    /** A refused call: its answer, and that the digest is as it was. */
    private static void refused(DiscLines x, long before, String what, long got, long want) {
        due(what, got, want);
        due(what + " changed the digest", x.digest(), before);
    }

    private static void newObject() {
        DiscLines x = new DiscLines();
        for (int what = 0; what < 4; what++) {
            due("1: count", x.count(what), 0);
        }
        for (int m = 0; m < 8; m++) {
            due("1: mark", x.mark(m, 10 * m), 10 * m);
        }
        due("1: own", x.own(3), 3);
        due("1: error", x.error(2), 2);
        due("1: above", x.part(0), 0);
        due("1: below", x.part(1), 1);
        due("1: ways", x.ways(), 1);
        due("1: mayBe of nothing", x.mayBe(0), 0);
        due("1: image", x.from(0), -3);
        due("1: image", x.from(1), -3);
        due("1: law", x.erase(3), 0);
        due("1: weighed", x.weighed(37), 0);
    }

    private static void shade() {
        DiscLines x = new DiscLines();
        due("2: first", x.shade(3, 80, 15), 0);
        due("2: then", x.shade(3, 80, 0), 15);
        due("2: other world", x.shade(2, 80, 1), 0);
        long before = x.digest();
        int[][] bad = {{-1, 0, 0}, {4, 0, 0}, {0, -1, 0}, {0, 81, 0}, {0, 0, -1}, {0, 0, 16}, {LEAST, MOST, LEAST}};
        for (int[] b : bad) {
            refused(x, before, "2: bad", x.shade(b[0], b[1], b[2]), -2);
        }
    }

    private static void green() {
        DiscLines x = new DiscLines();
        due("3: first", x.green(0, 8, 511), 0);
        due("3: then", x.green(0, 8, 5), 511);
        due("3: other world", x.green(1, 8, 0), 0);
        long before = x.digest();
        int[][] bad = {{-1, 0, 0}, {4, 0, 0}, {0, -1, 0}, {0, 9, 0}, {0, 0, -1}, {0, 0, 512}};
        for (int[] b : bad) {
            refused(x, before, "3: bad", x.green(b[0], b[1], b[2]), -2);
        }
    }

    private static void mark() {
        DiscLines x = new DiscLines();
        due("4: moved", x.mark(0, 80), 0);
        due("4: the same again", x.mark(0, 80), 80);
        due("4: where it lay", x.mark(1, 0), 10);
        long before = x.digest();
        refused(x, before, "4: another lies there", x.mark(2, 80), -2);
        int[][] bad = {{-1, 5}, {8, 5}, {0, -1}, {0, 81}};
        for (int[] b : bad) {
            refused(x, before, "4: bad", x.mark(b[0], b[1]), -2);
        }
    }

    private static void seen() {
        DiscLines x = new DiscLines();
        x.shade(0, 40, 15);
        x.shade(0, 31, 11);
        x.shade(0, 0, 7);
        due("5: no glass", x.seen(0, 0, 0, 0, 40), 15);
        due("5: 26 by 9, cut", x.seen(0, 0, 1, 0, 40), 2);
        due("5: 26 by 25, cut", x.seen(0, 0, 2, 0, 40), 1);
        due("5: 26 by 49", x.seen(0, 0, 3, 0, 40), 0);
        due("5: 33 by 49 would be 0, too; the corner has 4 cells", x.seen(0, 0, 1, 0, 0), 1);
        due("5: the edge has 6 cells", x.seen(0, 0, 1, 0, 1), 1);
        due("5: above", x.seen(0, 0, 0, 1, 40), 11);
        due("5: below", x.seen(0, 0, 0, 2, 31), 15);
        due("5: left", x.seen(0, 0, 0, 3, 41), 15);
        due("5: right", x.seen(0, 0, 0, 4, 39), 15);
        due("5: nothing above", x.seen(0, 0, 0, 1, 0), 7);
        due("5: nothing at the left", x.seen(0, 0, 0, 3, 0), 7);
        due("5: the row above ends elsewhere", x.seen(0, 0, 0, 3, 9), 0);
        x.shade(0, 80, 9);
        due("5: nothing below", x.seen(0, 0, 0, 2, 80), 9);
        due("5: nothing at the right", x.seen(0, 0, 0, 4, 80), 9);
        due("5: blurred there, then moved", x.seen(0, 0, 1, 4, 79), 2);
        x.green(0, 4, 1 << 4 | 1 << 5);
        due("5: 15 at most", x.seen(0, 9, 0, 0, 40), 15);
        due("5: darker", x.seen(0, 9, 0, 0, 41), 9);
        due("5: not green", x.seen(0, 9, 0, 0, 42), 0);
        due("5: no darkening", x.seen(0, 0, 0, 0, 41), 0);
        due("5: another world", x.seen(1, 9, 0, 0, 41), 0);
        due("5: 15 + 11 + 9 by 9", x.seen(0, 9, 1, 0, 40), 3);
        int[][] bad = {{-1, 0, 0, 0, 0}, {4, 0, 0, 0, 0}, {0, -1, 0, 0, 0}, {0, 16, 0, 0, 0}, {0, 0, -1, 0, 0},
            {0, 0, 4, 0, 0}, {0, 0, 0, -1, 0}, {0, 0, 0, 5, 0}, {0, 0, 0, 0, -1}, {0, 0, 0, 0, 81}};
        for (int[] b : bad) {
            due("5: bad", x.seen(b[0], b[1], b[2], b[3], b[4]), -2);
        }
    }

    private static void line() {
        DiscLines x = new DiscLines();
        int number = 0;
        for (int a = 0; a < 8; a++) {
            for (int b = a + 1; b < 8; b++) {
                due("6: line", x.line(a, b), number);
                due("6: line, turned", x.line(b, a), number);
                number++;
            }
            due("6: alike", x.line(a, a), -2);
        }
        due("6: bad", x.line(-1, 0), -2);
        due("6: bad", x.line(0, 8), -2);
        due("6: bad", x.line(8, 0), -2);
        due("6: bad", x.line(0, -1), -2);
    }

    private static void writeAndErase() {
        DiscLines x = new DiscLines();
        for (int i = 1; i <= 40; i++) {
            due("7: how many", x.write(3, i == 1 ? 0 : 127), i);
        }
        long before = x.digest();
        refused(x, before, "7: full", x.write(3, 49), -4);
        refused(x, before, "7: bad ahead of full", x.write(3, 128), -2);
        refused(x, before, "7: bad", x.write(3, -1), -2);
        refused(x, before, "7: bad", x.write(4, 49), -2);
        refused(x, before, "7: bad", x.write(-1, 49), -2);
        refused(x, before, "8: bad", x.erase(4), -2);
        refused(x, before, "8: bad", x.erase(-1), -2);
        due("8: how many", x.erase(3), 40);
        due("8: empty", x.erase(3), 0);
        due("8: written again", x.write(3, 49), 1);
        due("8: as new", x.fault(3), -1);
    }

    private static void fault() {
        Object[][] texts = {
            {"", 1}, {" ", 11}, {"   ", 31}, {"1", -1}, {" 1 ", -1}, {"000000", -1}, {"999999", -1}, {"1234567", 2},
            {"a+ 1234567", 32}, {"12345 67", 61}, {"1 2", 21}, {"x", 1}, {"ab", 11}, {"a b", 21}, {"a+", 21},
            {"a+  ", 41}, {"+a", 1}, {"*a", 1}, {"a**b", 21}, {"a--b", -1}, {"a-!-!b", -1}, {"!", 11}, {"- ", 21},
            {"()", 11}, {"(a", 21}, {"(a)", -1}, {"a)", 11}, {"(a))", 31}, {"a(b)", 11}, {"(a)b", 31}, {"(a)(b)", 31},
            {"1<2<3", 31}, {"1=2>3", 31}, {"(1<2)<3", -1}, {"1<2&3<4|5=6", -1}, {"a<", 21}, {"<a", 1}, {"a&&b", 21},
            {"a||b", 21}, {"a==b", 21}, {"a!=b", 11}, {"a!", 11}, {"c", 1}, {"A", 1}, {"\t1", 1}, {"1\n", 11},
            {"((((((((a))))))))", -1}, {"(((((((((a)))))))))", 83}, {"(((((((( (", 93}, {"((((((((a)))))))) + (a)", -1},
            {"((((((((a)+(b))))))))", -1}, {"((((((((a+(b))))))))", 103}, {"1234567x", 2}, {"x1234567", 1},
            {"((((((((x(", 81}, {"!!!!!!!!!!!!!!!!!!!!!!!!!!!!!!!!!!!!!!!a", -1},
            {"----------------------------------------", 401}, {"1+1+1+1+1+1+1+1+1+1+1+1+1+1+1+1+1+1+1+1+", 401},
            {"a*(b|k)/-m+!(d<3&g=2)-12", -1}, {"a\0", 11}, {"a~", 11}, {"(1<2<3)", 41}, {"1.5", 11}};
        for (Object[] t : texts) {
            DiscLines x = new DiscLines();
            law(x, 1, (String) t[0]);
            due("9: fault of \"" + t[0] + "\"", x.fault(1), (Integer) t[1]);
            if ((Integer) t[1] != -1) {
                due("9: a law with a fault draws nothing: \"" + t[0] + "\"", x.drawn(1, 0, 0, 0, 0, ALL), 0);
            }
        }
        DiscLines x = new DiscLines();
        due("9: bad", x.fault(-1), -2);
        due("9: bad", x.fault(4), -2);
    }

    private static void drawn() {
        DiscLines x = new DiscLines();
        for (int m = 0; m < 8; m++) {
            x.shade(1, 10 * m, m + 1);
        }
        law(x, 0, "a=1");
        due("10: the lesser mark", x.drawn(0, 1, 0, 0, 0, 0), 127);
        law(x, 0, "b=8");
        due("10: the other mark", x.drawn(0, 1, 0, 0, 0, 0), lines(6, 12, 17, 21, 24, 26, 27));
        law(x, 0, "a=2&b=4");
        due("10: line 1 to 3", x.drawn(0, 1, 0, 0, 0, 0), lines(8));
        law(x, 0, "k");
        due("10: shown", x.drawn(0, 1, 0, 0, 0, 0x1234567), 0x1234567);
        due("10: all shown", x.drawn(0, 1, 0, 0, 0, ALL), ALL);
        law(x, 0, "!k");
        due("10: not shown", x.drawn(0, 1, 0, 0, 0, 0x1234567), ALL ^ 0x1234567);
        law(x, 0, "g=2");
        due("10: the glass", x.drawn(0, 1, 0, 2, 0, 0), ALL);
        due("10: another glass", x.drawn(0, 1, 0, 1, 0, 0), 0);
        law(x, 0, "d=7");
        due("10: 0 to 7 are seven apart", x.drawn(0, 0, 0, 0, 0, 0), lines(6));
        x.mark(7, 8);
        law(x, 0, "d=8");
        due("10: 0 to 7 are eight columns apart", x.drawn(0, 0, 0, 0, 0, 0), lines(6));
        law(x, 0, "m=5");
        x.shade(2, 4, 5);
        due("10: half way of cells 0 and 8; of 1 and 7 it is row 0, column 4, too", x.drawn(0, 2, 0, 0, 0, 0), lines(6, 12));
        law(x, 0, "a=9");
        x.green(3, 0, 1);
        due("10: darkening", x.drawn(0, 3, 9, 0, 0, 0), 127);
        due("10: air", x.drawn(0, 3, 9, 0, 2, 0), 0);
        due("10: air at the edge", x.drawn(0, 3, 9, 0, 1, 0), 127);
        due("10: an empty law", x.drawn(1, 3, 9, 0, 1, ALL), 0);
        int[][] bad = {{-1, 0, 0, 0, 0, 0}, {4, 0, 0, 0, 0, 0}, {0, -1, 0, 0, 0, 0}, {0, 4, 0, 0, 0, 0},
            {0, 0, -1, 0, 0, 0}, {0, 0, 16, 0, 0, 0}, {0, 0, 0, -1, 0, 0}, {0, 0, 0, 4, 0, 0}, {0, 0, 0, 0, -1, 0},
            {0, 0, 0, 0, 5, 0}, {0, 0, 0, 0, 0, -1}, {0, 0, 0, 0, 0, ALL + 1}, {0, 0, 0, 0, 0, MOST}};
        for (int[] b : bad) {
            due("10: bad", x.drawn(b[0], b[1], b[2], b[3], b[4], b[5]), -2);
        }
    }

    /** Laws without marks draw all lines or none: truths of plain numbers. */
    private static void valuesOfLaws() {
        String[] truths = {"1", "-1", "2|0", "2&3", "(2&3)=1", "(2|0)=1", "!0", "!!5=1", "!5=0", "7/2=3", "-7/2=-3",
            "0-7/2=-3", "5/0=0", "1/0+1", "2+3*4=14", "(2+3)*4=20", "10-2-3=5", "100/5/2=10", "2*3/4=1", "-2*3=-6",
            "1--1=2", "1<2", "2>1", "1=1", "0|1<2", "1|0&0", "!(1<0)", "3-3<1", "(1<2)+(2<3)=2", "!1+1", "-(2)=0-2",
            "!(2>2)", "(3>2)=1", "(3=3)=1", "(2<3)=1", "999999*999999*999999*16>0|1", "(0|0)=0", "007=7"};
        String[] falsities = {"0", "1-1", "!1", "0|0", "1&0", "2>3", "2<2", "1=2", "(2&3)=2", "(1|0)&0", "5/0",
            "1/2", "-1/2", "!2", "!(1|0)", "1-1&1/0", "(2|3)=3"};
        DiscLines x = new DiscLines();
        for (String t : truths) {
            x = new DiscLines();
            law(x, 0, t);
            due("10: " + t, x.drawn(0, 0, 0, 0, 0, 0), ALL);
        }
        for (String t : falsities) {
            x = new DiscLines();
            law(x, 0, t);
            due("10: " + t, x.drawn(0, 0, 0, 0, 0, 0), 0);
        }
        // 2 to the 16, four times: 2 to the 64 wraps to 0
        x = new DiscLines();
        law(x, 0, "65536*65536*65536*65536");
        due("10: wraps to 0", x.drawn(0, 0, 0, 0, 0, 0), 0);
        law(x, 0, "65536*65536*65536*32768<0");
        due("10: wraps below 0", x.drawn(0, 0, 0, 0, 0, 0), ALL);
        law(x, 0, "65536*65536*65536*32768/-1<0");
        due("10: the least long by -1", x.drawn(0, 0, 0, 0, 0, 0), ALL);
    }

    private static void far() {
        DiscLines x = new DiscLines();
        x.shade(0, 0, 4);
        x.shade(0, 1, 15);
        x.shade(0, 10, 8);
        x.green(0, 0, 511);
        law(x, 0, "a=3");
        due("11: spots alone, 12 by 4 at cell 0", x.far(0, 0, 1), 127);
        due("11: with all shades 27 by 4", x.drawn(0, 0, 0, 1, 0, 0), lines(7, 8, 9, 10, 11, 12));
        law(x, 0, "g=3&!k");
        due("11: the glass is f", x.far(0, 0, 3), ALL);
        due("11: the glass is f", x.far(0, 0, 2), 0);
        law(x, 0, "m");
        x.shade(1, 5, 9);
        due("11: half way between spots there is nothing", x.far(0, 1, 0), 0);
        x.mark(0, 5);
        law(x, 0, "a=9");
        due("11: where the mark lies now", x.far(0, 1, 0), 127);
        int[][] bad = {{-1, 0, 0}, {4, 0, 0}, {0, -1, 0}, {0, 4, 0}, {0, 0, -1}, {0, 0, 4}};
        for (int[] b : bad) {
            due("11: bad", x.far(b[0], b[1], b[2]), -2);
        }
    }

    private static void fairest() {
        DiscLines x = new DiscLines();
        law(x, 0, "g=2&d=7|g=3");
        law(x, 1, "g=3");
        law(x, 2, "g=1|g=3");
        due("12: farthest", x.fairest(0, 1, 0, 0), 2);
        due("12: one line apart", x.fairest(0, 1, 0, 1), 1);
        due("12: the other way about", x.fairest(1, 0, 0, 1), 1);
        due("12: a law with a fault", x.fairest(2, 3, 0, 0), 1);
        due("12: of like ones the least", x.fairest(3, 2, 0, 1), 28);
        due("12: the same law", x.fairest(0, 0, 0, 0), 0);
        due("12: the same law", x.fairest(0, 0, 0, 1), 0);
        due("12: 27 lines and 1 line", x.fairest(0, 2, 0, 0), 1);
        int[][] bad = {{-1, 0, 0, 0}, {4, 0, 0, 0}, {0, -1, 0, 0}, {0, 4, 0, 0}, {0, 0, -1, 0}, {0, 0, 4, 0},
            {0, 0, 0, -1}, {0, 0, 0, 2}};
        for (int[] b : bad) {
            due("12: bad", x.fairest(b[0], b[1], b[2], b[3]), -2);
        }
    }

    private static void observer() {
        DiscLines x = new DiscLines();
        for (int i = 0; i < 8; i++) {
            due("13: number", x.observer(i % 4, i + 2), i);
        }
        long before = x.digest();
        refused(x, before, "13: full", x.observer(0, 0), -4);
        int[][] bad = {{-1, 0}, {4, 0}, {0, -1}, {0, 10}};
        for (int[] b : bad) {
            refused(x, before, "13: bad ahead of full", x.observer(b[0], b[1]), -2);
        }
    }

    private static void sheet() {
        DiscLines x = new DiscLines();
        due("14: no observer", x.sheet(0, 0, 0), -2);
        x.observer(0, 1);
        due("14: first", x.sheet(0, 5, ALL), 0);
        long before = x.digest();
        int[][] bad = {{-1, 5, 0}, {1, 5, 0}, {0, 4, 0}, {0, -1, 0}, {0, 1000, 0}, {0, 5, -1}, {0, 5, ALL + 1}};
        for (int[] b : bad) {
            refused(x, before, "14: bad", x.sheet(b[0], b[1], b[2]), -2);
        }
        due("14: the same night", x.sheet(0, 5, 0), 1);
        due("14: the last night", x.sheet(0, 999, 3), 2);
        for (int i = 3; i < 16; i++) {
            due("14: number", x.sheet(0, 999, i), i);
        }
        before = x.digest();
        refused(x, before, "14: full", x.sheet(0, 999, 0), -4);
        refused(x, before, "14: bad ahead of full", x.sheet(0, 998, 0), -2);
        due("14: its lines", x.of(15, 0), 15);
    }

    private static void draw() {
        DiscLines x = new DiscLines();
        due("15: no observer", x.draw(0, 0, 0, 0, 0, 0), -2);
        law(x, 2, "k|a=9");
        x.observer(2, 1);
        x.observer(3, 1);
        x.shade(1, 0, 9);
        due("15: first", x.draw(0, 7, 1, 0, 0, 0), 0);
        due("15: by his law", x.of(0, 0), 127);
        due("15: his law has a fault", x.draw(1, 7, 1, 0, 0, 0), 1);
        due("15: nothing", x.of(1, 0), 0);
        due("15: told", x.sheet(1, 8, lines(20, 27)), 2);
        x.show(2, 0, 9);
        due("15: ahead of what is shown", x.draw(0, 8, 0, 0, 0, 0), 3);
        due("15: without it", x.of(3, 0), 0);
        due("15: on the night itself", x.draw(0, 9, 1, 0, 0, 0), 4);
        due("15: with it", x.of(4, 0), 127 | lines(20, 27));
        due("15: another observer", x.of(1, 3), 0);
        law(x, 2, "a=7");
        due("15: a sheet stays as it was drawn", x.of(4, 0), 127 | lines(20, 27));
        x.green(0, 0, 1);
        due("15: darkening", x.draw(0, 9, 0, 7, 0, 0), 5);
        due("15: darkening", x.of(5, 0), 127);
        due("15: air", x.draw(0, 9, 0, 7, 0, 4), 6);
        due("15: air", x.of(6, 0), 0);
        due("15: glass", x.draw(0, 9, 0, 7, 1, 0), 7);
        due("15: glass", x.of(7, 0), 0);
        long before = x.digest();
        int[][] bad = {{-1, 9, 0, 0, 0, 0}, {2, 9, 0, 0, 0, 0}, {0, 8, 0, 0, 0, 0}, {0, 1000, 0, 0, 0, 0},
            {0, 9, -1, 0, 0, 0}, {0, 9, 4, 0, 0, 0}, {0, 9, 0, -1, 0, 0}, {0, 9, 0, 16, 0, 0}, {0, 9, 0, 0, -1, 0},
            {0, 9, 0, 0, 4, 0}, {0, 9, 0, 0, 0, -1}, {0, 9, 0, 0, 0, 5}};
        for (int[] b : bad) {
            refused(x, before, "15: bad", x.draw(b[0], b[1], b[2], b[3], b[4], b[5]), -2);
        }
        for (int i = 8; i < 16; i++) {
            due("15: number", x.draw(0, 9, 0, 0, 0, 0), i);
        }
        before = x.digest();
        refused(x, before, "15: full", x.draw(0, 9, 0, 0, 0, 0), -4);
        refused(x, before, "15: bad ahead of full", x.draw(0, 9, 0, 0, 0, 5), -2);
    }

    private static void show() {
        DiscLines x = new DiscLines();
        x.observer(0, 1);
        due("16: no sheet", x.show(0, 0, 0), -2);
        x.sheet(0, 10, 1);
        long before = x.digest();
        int[][] bad = {{-1, 0, 10}, {1, 0, 10}, {0, -1, 10}, {0, 1, 10}, {0, 0, 9}, {0, 0, -1}, {0, 0, 1000}};
        for (int[] b : bad) {
            refused(x, before, "16: bad", x.show(b[0], b[1], b[2]), -2);
        }
        for (int i = 1; i <= 60; i++) {
            due("16: how many", x.show(0, 0, i % 2 == 0 ? 10 : 999), i);
        }
        before = x.digest();
        refused(x, before, "16: full", x.show(0, 0, 10), -4);
        refused(x, before, "16: bad ahead of full", x.show(0, 0, 9), -2);
    }

    private static void of() {
        DiscLines x = new DiscLines();
        x.observer(0, 1);
        x.observer(0, 1);
        x.sheet(1, 4, 6);
        x.sheet(0, 5, 9);
        x.sheet(0, 6, 16);
        due("17: lines", x.of(0, 0), 6);
        due("17: observer", x.of(0, 1), 1);
        due("17: night", x.of(0, 2), 4);
        due("17: shown", x.of(1, 3), 0);
        x.show(0, 0, 6);
        due("17: not by then", x.of(1, 3), 0);
        due("17: by then", x.of(2, 3), 6);
        x.show(1, 0, 5);
        due("17: all of them, his own too", x.of(2, 3), 15);
        due("17: on that night", x.of(1, 3), 9);
        due("17: another", x.of(0, 3), 0);
        int[][] bad = {{-1, 0}, {3, 0}, {0, -1}, {0, 4}, {16, 0}, {MOST, 0}};
        for (int[] b : bad) {
            due("17: bad", x.of(b[0], b[1]), -2);
        }
    }

    private static void agree() {
        DiscLines x = new DiscLines();
        for (int i = 0; i < 3; i++) {
            x.observer(0, 1);
        }
        x.sheet(2, 0, 0b000111);
        x.sheet(2, 0, 0b001100);
        x.sheet(0, 1, 0b011111);
        x.sheet(1, 2, 0b111110);
        due("18: agree", x.agree(2, 3, 0), 4);
        due("18: the other way about", x.agree(3, 2, 0), 4);
        due("18: nothing shown", x.agree(2, 3, 1), 0);
        x.show(0, 0, 1);
        due("18: to one", x.agree(2, 3, 1), 0);
        x.show(1, 1, 2);
        due("18: bit 2 by two sheets", x.agree(2, 3, 1), 1);
        x.show(0, 1, 3);
        due("18: too late", x.agree(2, 3, 1), 1);
        x.show(0, 1, 2);
        due("18: bits 1 and 2", x.agree(2, 3, 1), 2);
        int[][] bad = {{0, 0, 0}, {-1, 0, 0}, {0, -1, 0}, {4, 0, 0}, {0, 4, 0}, {0, 1, -1}, {0, 1, 2}};
        for (int[] b : bad) {
            due("18: bad", x.agree(b[0], b[1], b[2]), -2);
        }
    }

    private static void chanceIs(int first, int second, long above, long below) {
        DiscLines x = new DiscLines();
        x.observer(0, 1);
        x.sheet(0, 0, first);
        x.sheet(0, 0, second);
        due("19: chance", x.chance(0, 1), 1);
        due("19: above of " + first + ", " + second, x.part(0), above);
        due("19: below of " + first + ", " + second, x.part(1), below);
    }

    private static void chance() {
        chanceIs(0, 0, 1, 1);
        chanceIs(0, 5, 1, 1);
        chanceIs(5, 0, 1, 1);
        chanceIs(ALL, 7, 1, 1);
        chanceIs(1, 1, 1, 28);
        chanceIs(1, 2, 1, 1);
        chanceIs(1, 3, 1, 14);
        chanceIs(3, 1, 1, 14);
        // of 378 pairs one is both, 2 x 26 have just one of the two
        chanceIs(3, 3, 1, 378);
        chanceIs(3, 6, 53, 378);
        chanceIs((1 << 14) - 1, (1 << 14) - 1, 1, 40116600);
        // all but that choice that shares none: 40116600 less 1 by 40116600
        chanceIs((1 << 14) - 1, 1 | ALL << 15 & ALL, 40116599, 40116600);
        DiscLines x = new DiscLines();
        x.observer(0, 1);
        x.sheet(0, 0, 1);
        x.sheet(0, 0, 1);
        x.chance(0, 1);
        long before = x.digest();
        int[][] bad = {{0, 0}, {-1, 0}, {0, -1}, {2, 0}, {0, 2}};
        for (int[] b : bad) {
            refused(x, before, "19: bad", x.chance(b[0], b[1]), -2);
        }
    }

    private static void part() {
        DiscLines x = new DiscLines();
        due("20: above", x.part(0), 0);
        due("20: below", x.part(1), 1);
        due("20: bad", x.part(2), -1);
        due("20: bad", x.part(-1), -1);
        due("20: bad", x.part(LEAST), -1);
    }

    private static void own() {
        DiscLines x = new DiscLines();
        due("21: first", x.own(28), 3);
        due("21: then", x.own(0), 28);
        long before = x.digest();
        refused(x, before, "21: bad", x.own(-1), -2);
        refused(x, before, "21: bad", x.own(29), -2);
        due("21: kept", x.own(1), 0);
    }

    private static void took() {
        DiscLines x = new DiscLines();
        x.observer(0, 1);
        x.observer(0, 1);
        x.sheet(0, 1, 0b1111);
        x.sheet(0, 1, 0b0111);
        x.sheet(1, 2, 0b1011);
        due("22: of its own", x.took(2, 0), 1 << 16);
        due("22: 3 lines and 3", x.took(2, 1), 6);
        x.show(1, 1, 2);
        due("22: from 1", x.took(2, 0), 2);
        due("22: two lines", x.took(2, 1), 2);
        due("22: oldest", x.took(2, 3), 1);
        x.show(0, 1, 3);
        due("22: shown too late", x.took(2, 0), 2);
        x.show(0, 1, 1);
        due("22: from 0", x.took(2, 0), 1);
        due("22: one line", x.took(2, 1), 1);
        due("22: sure", x.took(2, 2), 1);
        due("22: oldest", x.took(2, 3), 0);
        x.sheet(1, 2, 0b1011);
        x.show(2, 1, 2);
        due("22: not from itself", x.took(2, 0), 1);
        due("22: not from one that was told behind it", x.took(0, 0), 1 << 16);
        due("22: from 2", x.took(3, 0), 4);
        due("22: nothing unlike", x.took(3, 1), 0);
        due("22: on and on", x.took(3, 3), 0);
        x.show(1, 0, 1);
        due("22: 1 is ahead of 0? no", x.took(0, 0), 1 << 16);
        x.show(0, 0, 1);
        due("22: 1 took from 0", x.took(1, 0), 1);
        due("22: nor 0 from itself", x.took(0, 0), 1 << 16);
        x.sheet(1, 4, 0);
        x.own(3);
        due("22: like ones: own 3 and from 1, 2 (3 was not shown)", x.took(4, 0), 1 << 16 | 0b0110);
        due("22: not sure", x.took(4, 2), 0);
        due("22: of its own ahead of all", x.took(4, 3), 4);
        x.own(4);
        due("22: the least number", x.took(4, 3), 0);
        int[][] bad = {{-1, 0}, {5, 0}, {0, -1}, {0, 4}};
        for (int[] b : bad) {
            due("22: bad", x.took(b[0], b[1]), -2);
        }
    }

    private static void ways() {
        DiscLines x = new DiscLines();
        due("23: without sheets", x.ways(), 1);
        x.observer(0, 1);
        long product = 1;
        for (int i = 0; i < 16; i++) {
            x.sheet(0, 0, 0);
            x.show(i, 0, 0);
        }
        due("23: from any ahead, 15!", x.ways(), 1307674368000L);
        x.own(0);
        for (int i = 1; i <= 16; i++) {
            product *= i;
        }
        due("23: of its own, too, 16!", x.ways(), product);
    }

    private static void guess() {
        DiscLines x = new DiscLines();
        for (int i = 0; i < 12; i++) {
            due("24: number", x.guess(i % 4, i / 4, 3 - i % 4), i);
        }
        long before = x.digest();
        refused(x, before, "24: full", x.guess(0, 0, 0), -4);
        int[][] bad = {{-1, 0, 0}, {4, 0, 0}, {0, -1, 0}, {0, 4, 0}, {0, 0, -1}, {0, 0, 4}};
        for (int[] b : bad) {
            refused(x, before, "24: bad ahead of full", x.guess(b[0], b[1], b[2]), -2);
        }
    }

    private static void error() {
        DiscLines x = new DiscLines();
        due("25: first", x.error(28), 2);
        due("25: then", x.error(0), 28);
        long before = x.digest();
        refused(x, before, "25: bad", x.error(-1), -2);
        refused(x, before, "25: bad", x.error(29), -2);
        due("25: kept", x.error(1), 0);
    }

    /** World 0 draws line 0, world 1 lines 0 and 1, world 2 none by law 0; law 1 draws what was shown. */
    private static DiscLines threeWorlds() {
        DiscLines x = new DiscLines();
        law(x, 0, "a=9&b=9");
        law(x, 1, "k");
        law(x, 2, "g&a");
        x.shade(0, 0, 9);
        x.shade(0, 10, 9);
        x.shade(1, 0, 9);
        x.shade(1, 10, 9);
        x.shade(1, 20, 9);
        x.observer(0, 1);
        x.observer(0, 1);
        x.guess(0, 0, 0);
        x.guess(1, 0, 0);
        x.guess(2, 0, 0);
        x.guess(3, 1, 0);
        return x;
    }

    private static void allows() {
        DiscLines x = threeWorlds();
        x.sheet(0, 1, lines(0));
        x.sheet(1, 2, lines(0, 5));
        x.error(0);
        due("26: just so", x.allows(0, 0), 1);
        due("26: two lines more", x.allows(1, 0), 0);
        due("26: one line less", x.allows(2, 0), 0);
        x.error(1);
        due("26: one line less", x.allows(2, 0), 1);
        due("26: lines 1 and 7 more", x.allows(1, 0), 0);
        x.error(2);
        due("26: lines 1 and 7 more", x.allows(1, 0), 1);
        x.error(0);
        due("26: nothing shown", x.allows(3, 1), 0);
        x.show(0, 1, 2);
        due("26: line 0 shown", x.allows(3, 1), 0);
        x.error(1);
        due("26: line 5 is one", x.allows(3, 1), 1);
        x.green(0, 0, 511);
        x.green(0, 1, 511);
        due("26: no darkening", x.allows(0, 0), 1);
        int[][] bad = {{-1, 0}, {4, 0}, {0, -1}, {0, 2}};
        for (int[] b : bad) {
            due("26: bad", x.allows(b[0], b[1]), -2);
        }
    }

    private static void mayBe() {
        DiscLines x = threeWorlds();
        due("27: no sheet", x.mayBe(1), -2);
        due("27: none asked", x.mayBe(0), 15);
        x.error(0);
        x.sheet(0, 1, lines(0));
        x.sheet(0, 2, lines(0, 1, 7));
        x.sheet(0, 3, 0);
        due("27: sheet 0", x.mayBe(1), 1);
        due("27: sheet 1", x.mayBe(2), 2);
        due("27: sheet 2", x.mayBe(4), 12);
        due("27: both", x.mayBe(3), 0);
        x.error(2);
        due("27: 0 and 1 with two errors", x.mayBe(3), 3);
        due("27: all", x.mayBe(7), 1);
        due("27: bad", x.mayBe(8), -2);
        due("27: bad", x.mayBe(-1), -2);
        due("27: bad", x.mayBe(LEAST), -2);
    }

    private static void there() {
        DiscLines x = threeWorlds();
        x.sheet(0, 1, lines(0));
        x.sheet(0, 2, ALL);
        x.error(2);
        due("28: worlds 0, 1, 2, 3 in all", x.there(0, 0), 0);
        due("28: in some", x.there(0, 1), lines(0, 1, 7));
        x.error(0);
        due("28: world 0 in all", x.there(1, 0), 1);
        due("28: world 0 in some", x.there(1, 1), 1);
        due("28: none may be", x.there(2, 0), -1);
        due("28: bad ahead of none", x.there(2, 2), -2);
        due("28: bad", x.there(4, 0), -2);
        due("28: bad", x.there(-1, 0), -2);
        due("28: bad", x.there(0, -1), -2);
        law(x, 0, "a=9&b=9|d=1");
        x.error(28);
        due("28: by law 0 in all of them", x.there(1, 0), lines(0, 7, 13, 18, 22, 25, 27));
        DiscLines none = new DiscLines();
        due("28: no guesses", none.there(0, 0), -1);
    }

    private static void parts() {
        DiscLines x = threeWorlds();
        x.sheet(0, 1, lines(0));
        x.sheet(0, 2, ALL);
        due("29: law 0 without a glass", x.parts(0, 0), 0);
        due("29: three ways: worlds 2 and 3 are alike", x.parts(0, 1), 3);
        law(x, 0, "0");
        due("29: law 2 through glass 1", x.parts(0, 0), 12);
        due("29: marks 0 to 2 or 3", x.parts(0, 1), 3);
        law(x, 2, "g=2&a");
        due("29: law 2 through glass 2", x.parts(0, 0), 22);
        law(x, 2, "0");
        law(x, 3, "k");
        due("29: nothing parts them", x.parts(0, 0), 0);
        due("29: one way", x.parts(0, 1), 1);
        x.error(0);
        due("29: none may be", x.parts(2, 1), -1);
        due("29: bad ahead of none", x.parts(2, 2), -2);
        due("29: bad", x.parts(4, 0), -2);
        due("29: bad", x.parts(-1, 0), -2);
        due("29: bad", x.parts(0, -1), -2);
    }

    private static void weighed() {
        DiscLines x = new DiscLines();
        x.observer(0, 3);
        x.observer(0, 1);
        x.observer(0, 0);
        x.sheet(0, 0, 0b0011);
        x.sheet(1, 0, 0b0101);
        x.sheet(2, 0, 0b1000);
        due("30: line 0", x.weighed(10), 4);
        due("30: line 1", x.weighed(11), 2);
        due("30: line 2", x.weighed(12), -2);
        due("30: line 3", x.weighed(13), -4);
        due("30: line 27", x.weighed(37), -4);
        due("30: above 0", x.weighed(0), 0b0011);
        due("30: half of 4 is enough", x.weighed(1), 0b0011);
        x.sheet(1, 0, 0b0010);
        due("30: line 0 is 3 of 5", x.weighed(10), 3);
        due("30: both", x.weighed(1), 0b0011);
        x.sheet(1, 0, 0);
        x.sheet(1, 0, 0b0010);
        // of 7: line 0 has 4 and 3, line 1 has 5 and 2
        due("30: line 0", x.weighed(10), 1);
        due("30: line 1", x.weighed(11), 3);
        due("30: above 0", x.weighed(0), 0b0011);
        due("30: 3 is less than half of 7", x.weighed(1), 0);
        int[] bad = {-1, 2, 9, 38, LEAST, MOST};
        for (int b : bad) {
            due("30: bad", x.weighed(b), -1000);
        }
    }

    private static void season() {
        DiscLines x = new DiscLines();
        x.observer(0, 1);
        x.sheet(0, 0, 0b0111);
        x.sheet(0, 0, 0b1110);
        x.sheet(0, 0, 0b0010);
        x.sheet(0, 0, 0);
        due("31: all of the first", x.season(3, 8), 0b0110);
        due("31: none of the second", x.season(3, 4), 0b0100);
        due("31: one and two", x.season(1, 6), 0b0001);
        due("31: nothing", x.season(8, 1), 0);
        int[][] bad = {{0, 1}, {1, 0}, {1, 3}, {16, 1}, {1, 16}, {-1, 1}, {1, -1}, {LEAST, 1}};
        for (int[] b : bad) {
            due("31: bad", x.season(b[0], b[1]), -2);
        }
    }

    private static void images() {
        DiscLines x = threeWorlds();
        x.sheet(0, 1, 1);
        x.sheet(1, 1, 1);
        x.show(0, 1, 1);
        long kept = x.digest();
        due("32: image", x.image(1), 1);
        due("33: none was kept", x.from(0), -3);
        x.shade(0, 0, 1);
        x.green(0, 0, 1);
        x.mark(0, 80);
        law(x, 0, "1");
        x.write(3, 49);
        x.observer(1, 1);
        x.sheet(2, 5, 7);
        x.show(2, 0, 9);
        x.own(9);
        x.guess(0, 0, 0);
        x.error(9);
        x.image(0);
        long other = x.digest();
        due("33: back", x.from(1), 1);
        due("33: all as it was", x.digest(), kept);
        due("33: its law draws as it did", x.drawn(0, 0, 0, 0, 0, 0), 1);
        due("33: the law's fault, too", x.fault(3), 1);
        due("33: the other one", x.from(0), 1);
        due("33: all as it was there", x.digest(), other);
        due("33: and its law", x.drawn(0, 0, 0, 0, 0, 0), ALL);
        x.from(1);
        x.chance(0, 1);
        due("33: once more", x.from(1), 1);
        due("33: the fraction stays", x.part(0), 1);
        due("33: the fraction stays", x.part(1), 28);
        x.image(1);
        x.sheet(0, 1, 2);
        x.chance(0, 2);
        x.from(1);
        due("33: nor is it kept", x.part(1), 1);
        x.own(5);
        x.image(1);
        x.own(6);
        x.from(1);
        due("32: kept anew", x.own(5), 5);
        long before = x.digest();
        int[] bad = {-1, 2, MOST, LEAST};
        for (int b : bad) {
            refused(x, before, "32: bad", x.image(b), -2);
            refused(x, before, "33: bad", x.from(b), -2);
        }
    }

    /** Fills every part of a new past with numbers that hang on v (0 or 1). */
    private static void fill(DiscLines x, int v) {
        for (int w = 0; w < 4; w++) {
            x.shade(w, 80 - v, w + v + 1);
            x.green(w, 8 - v, w + v + 1);
            law(x, w, v == 0 ? "k&b<9" : "a|k");
        }
        x.mark(7, 79 + v);
        x.observer(v, 5 + v);
        x.observer(1 - v, 3 + v);
        for (int i = 0; i < 4; i++) {
            x.sheet((i + v) % 2, 10 * i + v, 5 + 2 * v + i);
            x.show(i, (i + v + 1) % 2, 10 * i + 5 * v + 1);
            x.show(v, v, 50 + v);
            x.guess((i + v) % 4, (i + 2 * v) % 4, (i + 3 * v) % 4);
        }
        x.own(20 + v);
        x.error(10 + v);
    }

    private static void imagesOfUnlikePasts() {
        DiscLines x = new DiscLines();
        long empty = x.digest();
        x.image(0);
        fill(x, 0);
        long first = x.digest();
        int drawn = x.drawn(1, 0, 0, 0, 0, 0x555);
        int shown = x.of(3, 3);
        int took = x.took(3, 0);
        int may = x.mayBe(15);
        x.image(1);
        x.from(0);
        due("33: empty", x.digest(), empty);
        fill(x, 1);
        long second = x.digest();
        x.image(0);
        x.from(1);
        due("33: the first past", x.digest(), first);
        due("33: drawn", x.drawn(1, 0, 0, 0, 0, 0x555), drawn);
        due("33: shown", x.of(3, 3), shown);
        due("33: took", x.took(3, 0), took);
        due("33: may be", x.mayBe(15), may);
        x.from(0);
        due("33: the second past", x.digest(), second);
    }

    private static void count() {
        DiscLines x = threeWorlds();
        x.sheet(0, 1, 1);
        x.show(0, 1, 1);
        x.show(0, 1, 1);
        x.show(0, 1, 1);
        due("34: observers", x.count(0), 2);
        due("34: sheets", x.count(1), 1);
        due("34: shown", x.count(2), 3);
        due("34: guesses", x.count(3), 4);
        due("34: bad", x.count(4), -2);
        due("34: bad", x.count(-1), -2);
    }

    private static void digest() {
        DiscLines x = new DiscLines();
        x.shade(1, 80, 5);
        x.green(1, 0, 7);
        x.write(2, 97);
        x.observer(3, 9);
        x.sheet(0, 4, 6);
        x.show(0, 0, 8);
        x.guess(1, 2, 3);
        long h = 431;
        int[] counts = {1, 1, 1, 1};
        h = mixed(h, counts);
        h = mixed(h, new int[90]);
        int[] world = new int[90];
        world[80] = 5;
        world[81] = 7;
        h = mixed(h, world);
        h = mixed(h, new int[180]);
        h = mixed(h, 0, 10, 20, 30, 40, 50, 60, 70);
        h = mixed(h, 0, 0, 1, 97, 0);
        h = mixed(h, 3, 9);
        h = mixed(h, 6, 0, 4);
        h = mixed(h, 0, 0, 8);
        h = mixed(h, 3);
        h = mixed(h, 1, 2, 3);
        h = mixed(h, 2);
        h = mixed(h, 0, 1);
        due("35: digest", x.digest(), h);
        due("35: it changes nothing", x.digest(), h);
    }

    private static long mixed(long h, int... row) {
        long mixed = h;
        for (int v : row) {
            mixed = 31 * mixed + v;
        }
        return mixed;
    }
}
