import java.math.BigInteger;
import java.util.ArrayList;
import java.util.HashSet;
import java.util.List;
import java.util.Random;
import java.util.Set;
import java.util.TreeSet;

/**
 * Long runs of drawn calls on DiscLines and on a slow model that follows the document word by word
 * (brute blur, a tree of the law, sets of lines): every answer must be the same, and a refused call
 * must leave the digest as it was.
 */
public final class ModelTest {
    private static int wrong = 0;

    public static void main(String[] args) {
        lawTexts();
        for (int seed = 1; seed <= 400; seed++) {
            new Run(seed).go();
        }
        System.out.println(wrong == 0 ? "the model and the class agree" : wrong + " answers are not as due");
        if (wrong != 0) {
            System.exit(1);
        }
    }

    private static void due(String where, long got, long want) {
        if (got != want) {
            wrong++;
            if (wrong < 50) {
                System.out.println(where + " answered " + got + ", due is " + want);
            }
        }
    }

    /** All texts of a few signs, and many longer ones: fault and what they draw. */
    private static void lawTexts() {
        char[] signs = {'a', '1', '<', '+', '-', '(', ')', '!', ' ', '&', 'x'};
        for (int length = 1; length <= 4; length++) {
            int all = (int) Math.pow(signs.length, length);
            for (int n = 0; n < all; n++) {
                StringBuilder text = new StringBuilder();
                for (int i = 0, rest = n; i < length; i++, rest /= signs.length) {
                    text.append(signs[rest % signs.length]);
                }
                sameLaw(text.toString());
            }
        }
        Random random = new Random(7);
        for (int i = 0; i < 10000; i++) {
            sameLaw(Texts.any(random));
        }
    }

    private static void sameLaw(String text) {
        DiscLines real = new DiscLines();
        Model model = new Model();
        for (int i = 0; i < 8; i++) {
            real.shade(0, 10 * i, 2 * i % 7);
            model.shade(0, 10 * i, 2 * i % 7);
        }
        for (int i = 0; i < text.length(); i++) {
            due("write of " + text, real.write(2, text.charAt(i)), model.write(2, text.charAt(i)));
        }
        due("fault of \"" + text + "\"", real.fault(2), model.fault(2));
        due("drawn by \"" + text + "\"", real.drawn(2, 0, 0, 1, 0, 0x5555555), model.drawn(2, 0, 0, 1, 0, 0x5555555));
    }

    /** Texts of laws: most of them without a fault, some with one sign that is wrong, some of noise. */
    private static final class Texts {
        static String any(Random random) {
            int kind = random.nextInt(10);
            if (kind == 0) {
                return noise(random);
            }
            StringBuilder text = new StringBuilder();
            value(random, text, random.nextInt(4));
            for (int i = random.nextInt(4); i > 0; i--) {
                text.insert(random.nextInt(text.length() + 1), ' ');
            }
            if (kind == 1) {
                text.insert(random.nextInt(text.length() + 1), (char) random.nextInt(128));
            }
            if (kind == 2) {
                text.deleteCharAt(random.nextInt(text.length()));
            }
            return text.length() > 40 ? text.substring(0, 40) : text.toString();
        }

        private static String noise(Random random) {
            String signs = "abdmkg0123456789|&<>=+-*/()!  (((";
            StringBuilder text = new StringBuilder();
            for (int i = random.nextInt(41); i > 0; i--) {
                text.append(signs.charAt(random.nextInt(signs.length())));
            }
            return text.toString();
        }

        private static void value(Random random, StringBuilder text, int deep) {
            unit(random, text, deep);
            for (int i = random.nextInt(4); i > 0; i--) {
                text.append("|&<>=+-*/".charAt(random.nextInt(9)));
                unit(random, text, deep);
            }
        }

        private static void unit(Random random, StringBuilder text, int deep) {
            while (random.nextInt(5) == 0) {
                text.append(random.nextBoolean() ? '!' : '-');
            }
            int kind = random.nextInt(4);
            if (kind == 0 && deep > 0) {
                text.append('(');
                value(random, text, deep - 1);
                text.append(')');
            } else if (kind == 1) {
                text.append(random.nextInt(8) == 0 ? random.nextInt(2000000) : random.nextInt(12));
            } else {
                text.append("abdmkg".charAt(random.nextInt(6)));
            }
        }
    }

    /** One run of 512 calls at most on a new object. */
    private static final class Run {
        private final int seed;
        private final Random random;
        private final DiscLines real = new DiscLines();
        private final Model model = new Model();
        private final boolean wild;
        private int calls = 0;

        Run(int seed) {
            this.seed = seed;
            this.random = new Random(seed);
            this.wild = seed % 5 == 0;
        }

        void go() {
            for (int law = 0; law < 4; law++) {
                if (random.nextInt(5) != 0) {
                    writeLaw(law);
                }
            }
            for (int i = random.nextInt(60); i > 0; i--) {
                one(0);
            }
            while (calls < 500) {
                one(random.nextInt(37));
            }
        }

        private void writeLaw(int law) {
            same("erase", real.erase(law), model.erase(law), law);
            String text = Texts.any(random);
            for (int i = 0; i < text.length() && calls < 500; i++) {
                same("write", real.write(law, text.charAt(i)), model.write(law, text.charAt(i)), law, text.charAt(i));
            }
        }

        private int n(int size) {
            if (wild && random.nextInt(6) == 0) {
                int[] ends = {Integer.MIN_VALUE, Integer.MAX_VALUE, -1, size, size + 1, 1 << 28, 1 << 16, -5};
                return ends[random.nextInt(ends.length)];
            }
            return random.nextInt(60) == 0 ? random.nextInt(size + 3) - 1 : random.nextInt(size);
        }

        private int some(int what) {
            return n(Math.max(1, model.count(what)));
        }

        private int sheetSet() {
            int sheets = model.count(1);
            int bits = random.nextInt(1 << sheets);
            if (random.nextInt(3) != 0 && sheets > 0) {
                bits = 1 << random.nextInt(sheets);
            }
            return random.nextInt(20) == 0 ? n(1 << 16) : bits;
        }

        private int night() {
            return random.nextInt(12) == 0 ? n(1000) : Math.min(999, model.lastNight() + random.nextInt(3));
        }

        private int lines() {
            int few = random.nextInt(1 << 28) & random.nextInt(1 << 28);
            if (model.count(1) > 0 && random.nextBoolean()) {
                int like = model.of(random.nextInt(model.count(1)), 0);
                return like ^ 1 << random.nextInt(28);
            }
            return random.nextInt(30) == 0 ? n(1 << 28) : few;
        }

        private void same(String call, long got, long want, long... numbers) {
            calls++;
            StringBuilder where = new StringBuilder("seed " + seed + ", call " + calls + ": " + call + "(");
            for (int i = 0; i < numbers.length; i++) {
                where.append(i == 0 ? "" : ", ").append(numbers[i]);
            }
            due(where.append(")").toString(), got, want);
            // an object is promised for 512 calls, so not every call can be looked behind
            if (want < 0 || random.nextInt(4) == 0) {
                calls++;
                due(where + " then digest", real.digest(), model.digest());
            }
        }

        private void one(int kind) {
            if (kind < 18) {
                oneOfWorldsAndSheets(kind);
            } else {
                oneOfQuestions(kind);
            }
        }

        private void oneOfWorldsAndSheets(int kind) {
            int w = n(4), c = random.nextInt(3) == 0 ? n(81) : 10 * n(8), v = n(16), l = n(4), g = n(4), a = n(5), dk = n(16);
            int o = some(0), t = night(), s = some(1);
            switch (kind) {
                case 0: case 1: same("shade", real.shade(w, c, v), model.shade(w, c, v), w, c, v); break;
                case 2: { int r = n(9), q = n(512); same("green", real.green(w, r, q), model.green(w, r, q), w, r, q); break; }
                case 3: { int m = n(8), q = n(81); same("mark", real.mark(m, q), model.mark(m, q), m, q); break; }
                case 4: same("seen", real.seen(w, dk, g, a, c), model.seen(w, dk, g, a, c), w, dk, g, a, c); break;
                case 5: { int x = n(8), y = n(8); same("line", real.line(x, y), model.line(x, y), x, y); break; }
                case 6: { int ch = n(128); same("write", real.write(l, ch), model.write(l, ch), l, ch); break; }
                case 7: if (random.nextInt(3) == 0 && l >= 0 && l < 4) { writeLaw(l); } else if (random.nextInt(9) == 0) { same("erase", real.erase(l), model.erase(l), l); } break;
                case 8: same("fault", real.fault(l), model.fault(l), l); break;
                case 9: { int q = lines(); same("drawn", real.drawn(l, w, dk, g, a, q), model.drawn(l, w, dk, g, a, q), l, w, dk, g, a, q); break; }
                case 10: same("far", real.far(l, w, g), model.far(l, w, g), l, w, g); break;
                case 11: { int q = n(4), x = n(2); same("fairest", real.fairest(l, q, w, x), model.fairest(l, q, w, x), l, q, w, x); break; }
                case 12: if (random.nextInt(3) == 0) { int x = n(10); same("observer", real.observer(l, x), model.observer(l, x), l, x); } break;
                case 13: { int q = lines(); same("sheet", real.sheet(o, t, q), model.sheet(o, t, q), o, t, q); break; }
                case 14: same("draw", real.draw(o, t, w, dk, g, a), model.draw(o, t, w, dk, g, a), o, t, w, dk, g, a); break;
                default: same("show", real.show(s, o, t), model.show(s, o, t), s, o, t); break;
            }
        }

        private void oneOfQuestions(int kind) {
            int s = some(1), z = some(1), x = n(2), q = n(4), set = sheetSet();
            switch (kind) {
                case 18: same("of", real.of(s, q), model.of(s, q), s, q); break;
                case 19: same("agree", real.agree(s, z, x), model.agree(s, z, x), s, z, x); break;
                case 20: same("chance", real.chance(s, z), model.chance(s, z), s, z); break;
                case 21: same("part", real.part(x), model.part(x), x); break;
                case 22: { int v = n(random.nextBoolean() ? 4 : 29); same("own", real.own(v), model.own(v), v); break; }
                case 23: case 24: same("took", real.took(s, q), model.took(s, q), s, q); break;
                case 25: same("ways", real.ways(), model.ways()); break;
                case 26: { int l = n(4), g = n(4); same("guess", real.guess(q, l, g), model.guess(q, l, g), q, l, g); break; }
                case 27: { int v = n(29); same("error", real.error(v), model.error(v), v); break; }
                case 28: { int g = some(3); same("allows", real.allows(g, s), model.allows(g, s), g, s); break; }
                case 29: same("mayBe", real.mayBe(set), model.mayBe(set), set); break;
                case 30: same("there", real.there(set, x), model.there(set, x), set, x); break;
                case 31: same("parts", real.parts(set, x), model.parts(set, x), set, x); break;
                case 32: { int v = random.nextInt(3) == 0 ? n(2) : n(40); same("weighed", real.weighed(v), model.weighed(v), v); break; }
                case 33: { int other = random.nextInt(8) == 0 ? sheetSet() : sheetSet() & ~set; same("season", real.season(set, other), model.season(set, other), set, other); break; }
                case 34: if (random.nextInt(3) == 0) { same("image", real.image(x), model.image(x), x); } break;
                case 35: if (random.nextInt(5) == 0) { same("from", real.from(x), model.from(x), x); } break;
                default: same("count", real.count(q), model.count(q), q); break;
            }
        }
    }

    /** A law's tree, or a fault thrown where the text can not go on. */
    private static final class Fault extends Exception {
        private static final long serialVersionUID = 1;
        final int number;

        Fault(int place, int kind) {
            super("fault");
            number = 10 * place + kind;
        }
    }

    private static final class Tree {
        final String sign;
        final List<Tree> below = new ArrayList<>();

        Tree(String sign, Tree... parts) {
            this.sign = sign;
            below.addAll(List.of(parts));
        }

        BigInteger work(int[] units) {
            List<BigInteger> v = new ArrayList<>();
            for (Tree t : below) {
                v.add(t.work(units));
            }
            if (below.isEmpty()) {
                int unit = "abdmkg".indexOf(sign);
                return unit >= 0 ? BigInteger.valueOf(units[unit]) : new BigInteger(sign);
            }
            if (below.size() == 1) {
                return sign.equals("!") ? truth(v.get(0).signum() == 0) : wrapped(v.get(0).negate());
            }
            return joined(v.get(0), v.get(1));
        }

        private BigInteger joined(BigInteger x, BigInteger y) {
            switch (sign) {
                case "|": return truth(x.signum() != 0 || y.signum() != 0);
                case "&": return truth(x.signum() != 0 && y.signum() != 0);
                case "<": return truth(x.compareTo(y) < 0);
                case ">": return truth(x.compareTo(y) > 0);
                case "=": return truth(x.equals(y));
                case "+": return wrapped(x.add(y));
                case "-": return wrapped(x.subtract(y));
                case "*": return wrapped(x.multiply(y));
                default: return y.signum() == 0 ? BigInteger.ZERO : wrapped(x.divide(y));
            }
        }

        private static BigInteger truth(boolean b) {
            return b ? BigInteger.ONE : BigInteger.ZERO;
        }

        private static BigInteger wrapped(BigInteger v) {
            return BigInteger.valueOf(v.longValue());
        }
    }

    private static final class Parser {
        private final String text;
        private int i = 0;
        private int open = 0;

        Parser(String text) {
            this.text = text;
        }

        Tree whole() throws Fault {
            Tree t = value();
            if (peek() != 0xffff) {
                throw new Fault(i, 1);
            }
            return t;
        }

        private char peek() {
            while (i < text.length() && text.charAt(i) == 32) {
                i++;
            }
            return i < text.length() ? text.charAt(i) : 0xffff;
        }

        private Tree value() throws Fault {
            Tree t = both();
            while (peek() == '|') {
                i++;
                t = new Tree("|", t, both());
            }
            return t;
        }

        private Tree both() throws Fault {
            Tree t = held();
            while (peek() == '&') {
                i++;
                t = new Tree("&", t, held());
            }
            return t;
        }

        private Tree held() throws Fault {
            Tree t = sum();
            char c = peek();
            if (c == '<' || c == '>' || c == '=') {
                i++;
                t = new Tree(String.valueOf(c), t, sum());
            }
            return t;
        }

        private Tree sum() throws Fault {
            Tree t = term();
            for (char c = peek(); c == '+' || c == '-'; c = peek()) {
                i++;
                t = new Tree(String.valueOf(c), t, term());
            }
            return t;
        }

        private Tree term() throws Fault {
            Tree t = unit();
            for (char c = peek(); c == '*' || c == '/'; c = peek()) {
                i++;
                t = new Tree(String.valueOf(c), t, unit());
            }
            return t;
        }

        private Tree unit() throws Fault {
            char c = peek();
            if (c == '!' || c == '-') {
                i++;
                return new Tree(String.valueOf(c), unit());
            }
            if (c == '(') {
                if (open == 8) {
                    throw new Fault(i, 3);
                }
                i++;
                open++;
                Tree t = value();
                if (peek() != ')') {
                    throw new Fault(i, 1);
                }
                i++;
                open--;
                return t;
            }
            if ("abdmkg".indexOf(c) >= 0) {
                i++;
                return new Tree(String.valueOf(c));
            }
            int first = i;
            while (i < text.length() && "0123456789".indexOf(text.charAt(i)) >= 0) {
                i++;
            }
            if (i - first > 6) {
                throw new Fault(first, 2);
            }
            if (i == first) {
                throw new Fault(i, 1);
            }
            return new Tree(text.substring(first, i));
        }
    }

    private record Guess(int world, int law, int glass) { }

    private record Sheet(int observer, int night, Set<Integer> lines) { }

    private record Show(int sheet, int observer, int night) { }

    private record Observer(int law, int weight) { }

    private record Image(int[][] shades, int[][] greens, int[] marks, List<String> laws, List<Observer> observers,
            List<Sheet> sheets, List<Show> shows, List<Guess> guesses, int own, int error) { }

    /** The document, word by word. */
    private static final class Model {
        private int[][] shades = new int[4][81];
        private int[][] greens = new int[4][9];
        private int[] marks = {0, 10, 20, 30, 40, 50, 60, 70};
        private List<String> laws = new ArrayList<>(List.of("", "", "", ""));
        private List<Observer> observers = new ArrayList<>();
        private List<Sheet> sheets = new ArrayList<>();
        private List<Show> shows = new ArrayList<>();
        private List<Guess> guesses = new ArrayList<>();
        private int own = 3;
        private int error = 2;
        private BigInteger above = BigInteger.ZERO;
        private BigInteger below = BigInteger.ONE;
        private final Image[] images = new Image[2];

        private static boolean in(int v, int low, int high) {
            return low <= v && v <= high;
        }

        private static int bits(Set<Integer> set) {
            int b = 0;
            for (int i : set) {
                b |= 1 << i;
            }
            return b;
        }

        private static Set<Integer> set(int bits) {
            Set<Integer> s = new TreeSet<>();
            for (int i = 0; i < 31; i++) {
                if ((bits & 1 << i) != 0) {
                    s.add(i);
                }
            }
            return s;
        }

        int lastNight() {
            return sheets.isEmpty() ? 0 : sheets.get(sheets.size() - 1).night;
        }

        int shade(int w, int c, int v) {
            if (!in(w, 0, 3) || !in(c, 0, 80) || !in(v, 0, 15)) {
                return -2;
            }
            int was = shades[w][c];
            shades[w][c] = v;
            return was;
        }

        int green(int w, int r, int v) {
            if (!in(w, 0, 3) || !in(r, 0, 8) || !in(v, 0, 511)) {
                return -2;
            }
            int was = greens[w][r];
            greens[w][r] = v;
            return was;
        }

        int mark(int m, int c) {
            if (!in(m, 0, 7) || !in(c, 0, 80)) {
                return -2;
            }
            for (int i = 0; i < 8; i++) {
                if (i != m && marks[i] == c) {
                    return -2;
                }
            }
            int was = marks[m];
            marks[m] = c;
            return was;
        }

        private int[][] disc(int w, int darkening) {
            int[][] d = new int[9][9];
            for (int r = 0; r < 9; r++) {
                for (int c = 0; c < 9; c++) {
                    d[r][c] = shades[w][9 * r + c];
                    if ((greens[w][r] & 1 << c) != 0) {
                        d[r][c] = Math.min(15, d[r][c] + darkening);
                    }
                }
            }
            return d;
        }

        private static int look(int[][] disc, int glass, int air, int cell) {
            int r = cell / 9, c = cell % 9;
            if (air == 1 && r > 0) { r--; }
            if (air == 2 && r < 8) { r++; }
            if (air == 3 && c > 0) { c--; }
            if (air == 4 && c < 8) { c++; }
            int sum = 0, many = 0;
            for (int i = 0; i < 81; i++) {
                if (Math.abs(i / 9 - r) <= glass && Math.abs(i % 9 - c) <= glass) {
                    sum += disc[i / 9][i % 9];
                    many++;
                }
            }
            return sum / many;
        }

        int seen(int w, int dk, int g, int a, int c) {
            if (!in(w, 0, 3) || !in(dk, 0, 15) || !in(g, 0, 3) || !in(a, 0, 4) || !in(c, 0, 80)) {
                return -2;
            }
            return look(disc(w, dk), g, a, c);
        }

        int line(int a, int b) {
            if (!in(a, 0, 7) || !in(b, 0, 7) || a == b) {
                return -2;
            }
            int number = 0;
            for (int x = 0; x < 8; x++) {
                for (int y = x + 1; y < 8; y++) {
                    if (x == a && y == b || x == b && y == a) {
                        return number;
                    }
                    number++;
                }
            }
            return -99;
        }

        int write(int l, int ch) {
            if (!in(l, 0, 3) || !in(ch, 0, 127)) {
                return -2;
            }
            if (laws.get(l).length() == 40) {
                return -4;
            }
            laws.set(l, laws.get(l) + (char) ch);
            return laws.get(l).length();
        }

        int erase(int l) {
            if (!in(l, 0, 3)) {
                return -2;
            }
            return laws.set(l, "").length();
        }

        int fault(int l) {
            if (!in(l, 0, 3)) {
                return -2;
            }
            try {
                new Parser(laws.get(l)).whole();
                return -1;
            } catch (Fault f) {
                return f.number;
            }
        }

        private Set<Integer> drawn(int l, int[][] disc, int glass, int air, Set<Integer> shown) {
            Set<Integer> lines = new TreeSet<>();
            Tree tree;
            try {
                tree = new Parser(laws.get(l)).whole();
            } catch (Fault f) {
                return lines;
            }
            for (int a = 0; a < 8; a++) {
                for (int b = a + 1; b < 8; b++) {
                    int ca = marks[a], cb = marks[b];
                    int far = Math.max(Math.abs(ca / 9 - cb / 9), Math.abs(ca % 9 - cb % 9));
                    int half = (ca / 9 + cb / 9) / 2 * 9 + (ca % 9 + cb % 9) / 2;
                    int number = line(a, b);
                    int[] units = {look(disc, glass, air, ca), look(disc, glass, air, cb), far,
                        look(disc, glass, air, half), shown.contains(number) ? 1 : 0, glass};
                    if (tree.work(units).signum() != 0) {
                        lines.add(number);
                    }
                }
            }
            return lines;
        }

        int drawn(int l, int w, int dk, int g, int a, int shown) {
            if (!in(l, 0, 3) || !in(w, 0, 3) || !in(dk, 0, 15) || !in(g, 0, 3) || !in(a, 0, 4)
                    || !in(shown, 0, (1 << 28) - 1)) {
                return -2;
            }
            return bits(drawn(l, disc(w, dk), g, a, set(shown)));
        }

        private Set<Integer> fromFar(int l, int w, int f) {
            int[][] spots = new int[9][9];
            for (int m : marks) {
                spots[m / 9][m % 9] = shades[w][m];
            }
            return drawn(l, spots, f, 0, Set.of());
        }

        int far(int l, int w, int f) {
            if (!in(l, 0, 3) || !in(w, 0, 3) || !in(f, 0, 3)) {
                return -2;
            }
            return bits(fromFar(l, w, f));
        }

        int fairest(int a, int b, int w, int what) {
            if (!in(a, 0, 3) || !in(b, 0, 3) || !in(w, 0, 3) || !in(what, 0, 1)) {
                return -2;
            }
            int[] apart = new int[4];
            int most = 0;
            for (int f = 0; f < 4; f++) {
                apart[f] = Math.abs(fromFar(a, w, f).size() - fromFar(b, w, f).size());
                most = Math.max(most, apart[f]);
            }
            for (int f = 0; f < 4; f++) {
                if (apart[f] == most) {
                    return what == 0 ? f : most;
                }
            }
            return -99;
        }

        int observer(int l, int weight) {
            if (!in(l, 0, 3) || !in(weight, 0, 9)) {
                return -2;
            }
            if (observers.size() == 8) {
                return -4;
            }
            observers.add(new Observer(l, weight));
            return observers.size() - 1;
        }

        private Set<Integer> shownTo(int o, int night) {
            Set<Integer> lines = new TreeSet<>();
            for (Show s : shows) {
                if (s.observer == o && s.night <= night) {
                    lines.addAll(sheets.get(s.sheet).lines);
                }
            }
            return lines;
        }

        private boolean badSheet(int o, int night) {
            return !in(o, 0, observers.size() - 1) || !in(night, 0, 999) || night < lastNight();
        }

        private int add(int o, int night, Set<Integer> lines) {
            if (sheets.size() == 16) {
                return -4;
            }
            sheets.add(new Sheet(o, night, lines));
            return sheets.size() - 1;
        }

        int sheet(int o, int night, int lines) {
            if (badSheet(o, night) || !in(lines, 0, (1 << 28) - 1)) {
                return -2;
            }
            return add(o, night, set(lines));
        }

        int draw(int o, int night, int w, int dk, int g, int a) {
            if (badSheet(o, night) || !in(w, 0, 3) || !in(dk, 0, 15) || !in(g, 0, 3) || !in(a, 0, 4)) {
                return -2;
            }
            return add(o, night, drawn(observers.get(o).law, disc(w, dk), g, a, shownTo(o, night)));
        }

        int show(int s, int o, int night) {
            if (!in(s, 0, sheets.size() - 1) || !in(o, 0, observers.size() - 1) || !in(night, 0, 999)
                    || night < sheets.get(s).night) {
                return -2;
            }
            if (shows.size() == 60) {
                return -4;
            }
            shows.add(new Show(s, o, night));
            return shows.size();
        }

        int of(int s, int what) {
            if (!in(s, 0, sheets.size() - 1) || !in(what, 0, 3)) {
                return -2;
            }
            Sheet x = sheets.get(s);
            return new int[] {bits(x.lines), x.observer, x.night, bits(shownTo(x.observer, x.night))}[what];
        }

        private boolean badPair(int a, int b) {
            return !in(a, 0, sheets.size() - 1) || !in(b, 0, sheets.size() - 1) || a == b;
        }

        int agree(int a, int b, int what) {
            if (badPair(a, b) || !in(what, 0, 1)) {
                return -2;
            }
            Set<Integer> both = new TreeSet<>(sheets.get(a).lines);
            both.retainAll(sheets.get(b).lines);
            if (what == 1) {
                both.retainAll(shownTo(sheets.get(a).observer, sheets.get(a).night));
                both.retainAll(shownTo(sheets.get(b).observer, sheets.get(b).night));
            }
            return both.size();
        }

        private static BigInteger factorial(int n) {
            return n <= 1 ? BigInteger.ONE : BigInteger.valueOf(n).multiply(factorial(n - 1));
        }

        private static BigInteger choose(int n, int k) {
            return k < 0 || k > n ? BigInteger.ZERO : factorial(n).divide(factorial(k)).divide(factorial(n - k));
        }

        int chance(int a, int b) {
            if (badPair(a, b)) {
                return -2;
            }
            int n = sheets.get(a).lines.size(), m = sheets.get(b).lines.size(), k = agree(a, b, 0);
            BigInteger good = BigInteger.ZERO;
            for (int i = k; i <= 28; i++) {
                good = good.add(choose(m, i).multiply(choose(28 - m, n - i)));
            }
            BigInteger all = choose(28, n);
            BigInteger common = good.gcd(all);
            above = good.divide(common);
            below = all.divide(common);
            return 1;
        }

        long part(int what) {
            return what == 0 ? above.longValueExact() : what == 1 ? below.longValueExact() : -1;
        }

        int own(int v) {
            if (!in(v, 0, 28)) {
                return -2;
            }
            int was = own;
            own = v;
            return was;
        }

        private int cost(int s, int source) {
            Set<Integer> mine = sheets.get(s).lines;
            if (source == 16) {
                return mine.size() + own;
            }
            Set<Integer> just = new TreeSet<>(mine);
            just.removeAll(sheets.get(source).lines);
            Set<Integer> other = new TreeSet<>(sheets.get(source).lines);
            other.removeAll(mine);
            return just.size() + other.size();
        }

        private TreeSet<Integer> sources(int s) {
            TreeSet<Integer> all = new TreeSet<>();
            all.add(16);
            for (Show x : shows) {
                if (x.observer == sheets.get(s).observer && x.night <= sheets.get(s).night && x.sheet < s) {
                    all.add(x.sheet);
                }
            }
            return all;
        }

        private int least(int s) {
            int least = 1000;
            for (int source : sources(s)) {
                least = Math.min(least, cost(s, source));
            }
            return least;
        }

        private TreeSet<Integer> mayHave(int s) {
            TreeSet<Integer> may = new TreeSet<>();
            for (int source : sources(s)) {
                if (cost(s, source) == least(s)) {
                    may.add(source);
                }
            }
            return may;
        }

        private int oldest(int s) {
            TreeSet<Integer> may = mayHave(s);
            return may.contains(16) ? s : oldest(may.first());
        }

        int took(int s, int what) {
            if (!in(s, 0, sheets.size() - 1) || !in(what, 0, 3)) {
                return -2;
            }
            return new int[] {bits(mayHave(s)), least(s), mayHave(s).size() == 1 ? 1 : 0, oldest(s)}[what];
        }

        long ways() {
            long product = 1;
            for (int s = 0; s < sheets.size(); s++) {
                product *= mayHave(s).size();
            }
            return product;
        }

        int guess(int w, int l, int g) {
            if (!in(w, 0, 3) || !in(l, 0, 3) || !in(g, 0, 3)) {
                return -2;
            }
            if (guesses.size() == 12) {
                return -4;
            }
            guesses.add(new Guess(w, l, g));
            return guesses.size() - 1;
        }

        int error(int v) {
            if (!in(v, 0, 28)) {
                return -2;
            }
            int was = error;
            error = v;
            return was;
        }

        int allows(int g, int s) {
            if (!in(g, 0, guesses.size() - 1) || !in(s, 0, sheets.size() - 1)) {
                return -2;
            }
            Guess x = guesses.get(g);
            Sheet y = sheets.get(s);
            Set<Integer> d = drawn(x.law, disc(x.world, 0), x.glass, 0, shownTo(y.observer, y.night));
            int unlike = 0;
            for (int i = 0; i < 28; i++) {
                unlike += d.contains(i) != y.lines.contains(i) ? 1 : 0;
            }
            return unlike <= error ? 1 : 0;
        }

        private boolean badSet(int set) {
            return set < 0 || set >= 1 << sheets.size();
        }

        int mayBe(int set) {
            if (badSet(set)) {
                return -2;
            }
            int may = 0;
            for (int g = 0; g < guesses.size(); g++) {
                boolean all = true;
                for (int s : set(set)) {
                    all &= allows(g, s) == 1;
                }
                may |= all ? 1 << g : 0;
            }
            return may;
        }

        private Set<Integer> worlds(int set) {
            Set<Integer> w = new TreeSet<>();
            for (int g : set(mayBe(set))) {
                w.add(guesses.get(g).world);
            }
            return w;
        }

        int there(int set, int what) {
            if (badSet(set) || !in(what, 0, 1)) {
                return -2;
            }
            if (mayBe(set) == 0) {
                return -1;
            }
            Set<Integer> all = set((1 << 28) - 1);
            Set<Integer> some = new TreeSet<>();
            for (int w : worlds(set)) {
                all.retainAll(drawn(0, disc(w, 0), 0, 0, Set.of()));
                some.addAll(drawn(0, disc(w, 0), 0, 0, Set.of()));
            }
            return bits(what == 0 ? all : some);
        }

        int parts(int set, int what) {
            if (badSet(set) || !in(what, 0, 1)) {
                return -2;
            }
            if (mayBe(set) == 0) {
                return -1;
            }
            int best = 0, most = 0;
            for (int g = 3; g >= 0; g--) {
                for (int l = 3; l >= 0; l--) {
                    Set<Set<Integer>> ways = new HashSet<>();
                    for (int w : worlds(set)) {
                        ways.add(drawn(l, disc(w, 0), g, 0, Set.of()));
                    }
                    if (ways.size() >= most) {
                        most = ways.size();
                        best = 10 * g + l;
                    }
                }
            }
            return what == 0 ? best : most;
        }

        private int weight(int line) {
            int sum = 0;
            for (Sheet s : sheets) {
                int w = observers.get(s.observer).weight;
                sum += s.lines.contains(line) ? w : -w;
            }
            return sum;
        }

        int weighed(int what) {
            if (in(what, 10, 37)) {
                return weight(what - 10);
            }
            if (!in(what, 0, 1)) {
                return -1000;
            }
            int all = 0;
            for (Sheet s : sheets) {
                all += observers.get(s.observer).weight;
            }
            int lines = 0;
            for (int i = 0; i < 28; i++) {
                boolean is = weight(i) > 0 && (what == 0 || weight(i) >= all / 2.0);
                lines |= is ? 1 << i : 0;
            }
            return lines;
        }

        int season(int first, int second) {
            if (badSet(first) || badSet(second) || first == 0 || second == 0 || (first & second) != 0) {
                return -2;
            }
            Set<Integer> lines = set((1 << 28) - 1);
            for (int s : set(first)) {
                lines.retainAll(sheets.get(s).lines);
            }
            for (int s : set(second)) {
                lines.removeAll(sheets.get(s).lines);
            }
            return bits(lines);
        }

        private static int[][] deep(int[][] rows) {
            int[][] copy = new int[rows.length][];
            for (int i = 0; i < rows.length; i++) {
                copy[i] = rows[i].clone();
            }
            return copy;
        }

        int image(int i) {
            if (!in(i, 0, 1)) {
                return -2;
            }
            images[i] = new Image(deep(shades), deep(greens), marks.clone(), new ArrayList<>(laws),
                    new ArrayList<>(observers), new ArrayList<>(sheets), new ArrayList<>(shows),
                    new ArrayList<>(guesses), own, error);
            return 1;
        }

        int from(int i) {
            if (!in(i, 0, 1)) {
                return -2;
            }
            if (images[i] == null) {
                return -3;
            }
            Image x = images[i];
            shades = deep(x.shades);
            greens = deep(x.greens);
            marks = x.marks.clone();
            laws = new ArrayList<>(x.laws);
            observers = new ArrayList<>(x.observers);
            sheets = new ArrayList<>(x.sheets);
            shows = new ArrayList<>(x.shows);
            guesses = new ArrayList<>(x.guesses);
            own = x.own;
            error = x.error;
            return 1;
        }

        int count(int what) {
            return in(what, 0, 3) ? new int[] {observers.size(), sheets.size(), shows.size(), guesses.size()}[what] : -2;
        }

        long digest() {
            List<Long> all = new ArrayList<>();
            for (int i = 0; i < 4; i++) {
                all.add((long) count(i));
            }
            for (int w = 0; w < 4; w++) {
                for (int v : shades[w]) { all.add((long) v); }
                for (int v : greens[w]) { all.add((long) v); }
            }
            for (int m : marks) { all.add((long) m); }
            for (String l : laws) {
                all.add((long) l.length());
                for (char c : l.toCharArray()) { all.add((long) c); }
            }
            for (Observer o : observers) { all.add((long) o.law); all.add((long) o.weight); }
            for (int s = 0; s < sheets.size(); s++) {
                for (int what = 0; what < 3; what++) { all.add((long) of(s, what)); }
            }
            for (Show s : shows) { all.add((long) s.sheet); all.add((long) s.observer); all.add((long) s.night); }
            all.add((long) own);
            for (Guess g : guesses) { all.add((long) g.world); all.add((long) g.law); all.add((long) g.glass); }
            all.add((long) error);
            all.add(part(0));
            all.add(part(1));
            long h = 431;
            for (long v : all) { h = 31 * h + v; }
            return h;
        }
    }
}
