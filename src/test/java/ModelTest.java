import java.lang.reflect.InvocationTargetException;
import java.lang.reflect.Method;
import java.util.ArrayDeque;
import java.util.ArrayList;
import java.util.Arrays;
import java.util.List;
import java.util.Random;
import java.util.regex.Matcher;
import java.util.regex.Pattern;

/** Random runs of calls, each answered by DraughtsTake and by a model written otherwise, with all that Java's library has. */
public final class ModelTest {
    private static final int RUNS = 700;
    private static final int CALLS = 160;

    // ---- the model

    /** Each kind is a class under the one that it stands under. */
    private static class Draught implements Cloneable {
        int kind;
        int figure;
        int cell;
        int way;
        boolean crowned;

        int leaps() {
            return 1;
        }

        float chills(float w, int turn) {
            return w * 0.75f;
        }
    }

    private static class Gust extends Draught {
        @Override int leaps() {
            return super.leaps() + figure / 3;
        }

        @Override float chills(float w, int turn) {
            return super.chills(w, turn) - 0.5f;
        }
    }

    private static class Sigh extends Draught {
        @Override float chills(float w, int turn) {
            return w - figure * 0.125f;
        }
    }

    private static class Gale extends Gust {
        @Override int leaps() {
            return 2 * super.leaps();
        }

        @Override float chills(float w, int turn) {
            return super.chills(super.chills(w, turn), turn);
        }
    }

    private static class Cellar extends Sigh {
        @Override int leaps() {
            return 0;
        }

        @Override float chills(float w, int turn) {
            return (int) super.chills(w, turn);
        }
    }

    private static class Flue extends Draught {
        @Override int leaps() {
            return figure / 2;
        }

        @Override float chills(float w, int turn) {
            return w / (figure + 1);
        }
    }

    private static class Storm extends Gale {
        @Override int leaps() {
            return super.leaps() + 1;
        }

        @Override float chills(float w, int turn) {
            float gale = super.chills(w, turn);
            return turn % 2 == 1 ? gale - 1 : gale;
        }
    }

    private static class Cat extends Flue {
        @Override int leaps() {
            return Math.max(0, super.leaps() - 1);
        }

        @Override float chills(float w, int turn) {
            return w / 2 + super.chills(w, turn) / 2;
        }
    }

    private static Draught breath(int kind, int figure, int cell, int way, boolean crowned) {
        Draught made = switch (kind) {
            case 0 -> new Draught();
            case 1 -> new Gust();
            case 2 -> new Sigh();
            case 3 -> new Gale();
            case 4 -> new Cellar();
            case 5 -> new Flue();
            case 6 -> new Storm();
            default -> new Cat();
        };
        made.kind = kind;
        made.figure = figure;
        made.cell = cell;
        made.way = way;
        made.crowned = crowned;
        return made;
    }

    private static final class Sitter {
        int cell;
        int shawls;
        boolean on = true;
    }

    /** What the image keeps. */
    private static final class World {
        boolean[] shut = new boolean[36];
        float[] warm = new float[36];
        List<Draught> airs = new ArrayList<>();
        List<Sitter> sitters = new ArrayList<>();
        List<int[]> hearth = new ArrayList<>();
        int turn;
        int taken;

        World() {
            Arrays.fill(warm, 16f);
        }

        World copy() {
            World c = new World();
            c.shut = shut.clone();
            c.warm = warm.clone();
            for (Draught a : airs) {
                c.airs.add(breath(a.kind, a.figure, a.cell, a.way, a.crowned));
            }
            for (Sitter s : sitters) {
                Sitter d = new Sitter();
                d.cell = s.cell;
                d.shawls = s.shawls;
                d.on = s.on;
                c.sitters.add(d);
            }
            c.hearth.addAll(hearth);
            c.turn = turn;
            c.taken = taken;
            return c;
        }

        int airAt(int cell) {
            for (int k = 0; k < airs.size(); k++) {
                if (airs.get(k).cell == cell) {
                    return k;
                }
            }
            return -9;
        }

        int sitterAt(int cell) {
            for (int k = 0; k < sitters.size(); k++) {
                if (sitters.get(k).on && sitters.get(k).cell == cell) {
                    return k;
                }
            }
            return -9;
        }

        boolean empty(int cell) {
            return airAt(cell) == -9 && sitterAt(cell) == -9;
        }

        boolean free(int cell) {
            return cell >= 0 && !shut[cell] && empty(cell);
        }

        static int beside(int cell, int way) {
            int[][] by = {{-1, 1}, {1, 1}, {1, -1}, {-1, -1}};
            int r = cell / 6 + by[way][0];
            int c = cell % 6 + by[way][1];
            return r < 0 || r > 5 || c < 0 || c > 5 ? -1 : 6 * r + c;
        }

        static float hold(float w) {
            return Math.max(-100f, Math.min(100f, w));
        }

        static float step(int[] s, float w) {
            float n = s[1];
            return switch ("tmasglc".charAt(s[0])) {
                case 't' -> w + ((n - w) * 0.125f);
                case 'm' -> w * (n / 16f);
                case 'a' -> w + n / 8f;
                case 's' -> w - n / 8f;
                case 'g' -> w < n ? n : w;
                case 'l' -> w > n ? n : w;
                default -> (float) (int) w;
            };
        }

        void go(int n) {
            for (int k = 0; k < n; k++) {
                go(true);
            }
        }

        void go(boolean withAirs) {
            turn++;
            for (int c = 0; c < 36; c++) {
                float w = warm[c];
                for (int[] s : hearth) {
                    w = step(s, w);
                }
                warm[c] = hold(w);
            }
            if (withAirs) {
                for (Draught a : airs) {
                    act(a);
                }
            }
            for (Sitter s : sitters) {
                if (s.on && warm[s.cell] < 8 - s.shawls) {
                    s.on = false;
                }
            }
        }

        void act(Draught a) {
            int tries = a.crowned ? 4 : 2;
            boolean leapt = false;
            boolean again = true;
            for (int k = 0; k < a.leaps() && again; k++) {
                again = false;
                for (int t = 0; t < tries && !again; t++) {
                    int way = (a.way + t) % 4;
                    int next = beside(a.cell, way);
                    if (next >= 0 && sitterAt(next) >= 0 && free(beside(next, way))) {
                        Sitter s = sitters.get(sitterAt(next));
                        taken = Math.min(9999, taken + 1);
                        if (s.shawls == 0) {
                            s.on = false;
                        } else {
                            s.shawls--;
                        }
                        land(a, beside(next, way), way);
                        leapt = true;
                        again = true;
                    }
                }
            }
            if (!leapt) {
                boolean gone = false;
                for (int t = 0; t < tries && !gone; t++) {
                    int way = (a.way + t) % 4;
                    if (free(beside(a.cell, way))) {
                        land(a, beside(a.cell, way), way);
                        gone = true;
                    }
                }
                if (!gone) {
                    a.way = (a.way + 2) % 4;
                }
            }
            a.crowned |= a.cell < 6 || a.cell >= 30;
        }

        void land(Draught a, int cell, int way) {
            a.cell = cell;
            a.way = way;
            warm[cell] = hold(a.chills(warm[cell], turn));
        }

        int on() {
            int bits = 0;
            for (int k = 0; k < sitters.size(); k++) {
                bits |= sitters.get(k).on ? 1 << k : 0;
            }
            return bits;
        }

        World then(int n) {
            World c = copy();
            c.go(n);
            return c;
        }

        int off(int sitter) {
            World c = copy();
            int t = 0;
            while (t <= 60 && c.sitters.get(sitter).on) {
                t++;
                c.go(1);
            }
            return t;
        }
    }

    /** A call that is refused, with its number. */
    private static final class No extends RuntimeException {
        private static final long serialVersionUID = 1L;
        final int number;

        No(int number) {
            super(null, null, false, false);
            this.number = number;
        }
    }

    private static void no(int number, boolean when) {
        if (when) {
            throw new No(number);
        }
    }

    /** Each method as the document tells it; a refusal is thrown. */
    public static final class Model {
        private World now = new World();
        private World image;
        private final ArrayDeque<World> past = new ArrayDeque<>();
        private final StringBuilder letters = new StringBuilder();
        private final List<Integer> row = new ArrayList<>();
        private final int[] pegSort = new int[3];
        private final int[][][] peg = new int[3][][];
        private final int[] refusals = new int[7];

        private void keep() {
            past.addLast(now.copy());
            if (past.size() > 8) {
                past.removeFirst();
            }
        }

        private void air0(int air) {
            no(-1, air < 0 || air >= now.airs.size());
        }

        private void sitter0(int sitter) {
            no(-1, sitter < 0 || sitter >= now.sitters.size());
        }

        private void cell0(int cell) {
            no(-1, cell < 0 || cell > 35);
        }

        private void what0(int what, int most) {
            no(-2, what < 0 || what > most);
        }

        private void range(int n, int least, int most) {
            no(-4, n < least);
            no(-6, n > most);
        }

        public int feed(int letter) {
            no(-4, letter < 0);
            no(-6, letter > 255 || letters.length() == 96);
            letters.append((char) letter);
            return letters.length();
        }

        private static final Pattern HOUSE = Pattern.compile(
            "(?:a\\d{5};|p\\d{3};|d\\d\\d;|w\\d{4};|t\\d\\d;|l(?:[tmasgl]\\d\\d|c)*;)+");
        private static final Pattern STATEMENT = Pattern.compile("[^;]*;");

        public int house() {
            String text = letters.toString();
            letters.setLength(0);
            for (int k = 1; k <= text.length(); k++) {
                Matcher m = HOUSE.matcher(text.substring(0, k));
                if (!m.matches() && !m.hitEnd()) {
                    return -1000 - (k - 1);
                }
            }
            if (!HOUSE.matcher(text).matches()) {
                return -1000 - text.length();
            }
            World w = now.copy();
            Matcher m = STATEMENT.matcher(text);
            int n = 0;
            while (m.find()) {
                if (!tell(w, m.group())) {
                    return -2000 - m.start();
                }
                n++;
            }
            now = w;
            past.clear();
            return n;
        }

        private static int digits(String s, int from, int to) {
            return Integer.parseInt(s.substring(from, to));
        }

        private static boolean tell(World w, String s) {
            if (s.charAt(0) == 'l') {
                return tellHearth(w, s);
            }
            if (s.charAt(0) == 't') {
                int n = digits(s, 1, 3);
                if (n < 1 || n > 60 || w.turn + n > 999) {
                    return false;
                }
                w.go(n);
                return true;
            }
            int cell = s.charAt(0) == 'a' ? digits(s, 3, 5) : digits(s, 1, 3);
            if (cell > 35) {
                return false;
            }
            switch (s.charAt(0)) {
                case 'a':
                    if (s.charAt(1) > '7' || s.charAt(5) > '3' || !w.free(cell) || w.airs.size() == 5) {
                        return false;
                    }
                    w.airs.add(breath(s.charAt(1) - '0', s.charAt(2) - '0', cell, s.charAt(5) - '0', false));
                    return true;
                case 'p':
                    if (!w.free(cell) || w.sitters.size() == 6) {
                        return false;
                    }
                    Sitter p = new Sitter();
                    p.cell = cell;
                    p.shawls = s.charAt(3) - '0';
                    w.sitters.add(p);
                    return true;
                case 'd':
                    if (!w.shut[cell] && !w.empty(cell)) {
                        return false;
                    }
                    w.shut[cell] = !w.shut[cell];
                    return true;
                default:
                    w.warm[cell] = digits(s, 3, 5);
                    return true;
            }
        }

        private static boolean tellHearth(World w, String s) {
            w.hearth.clear();
            int at = 1;
            while (s.charAt(at) != ';') {
                int step = "tmasglc".indexOf(s.charAt(at));
                w.hearth.add(new int[] {step, step == 6 ? 0 : digits(s, at + 1, at + 3)});
                at += step == 6 ? 1 : 3;
            }
            return w.hearth.size() <= 6;
        }

        public int air(int air, int what) {
            air0(air);
            what0(what, 5);
            Draught a = now.airs.get(air);
            return new int[] {a.kind, a.figure, a.cell, a.way, a.crowned ? 1 : 0, a.leaps()}[what];
        }

        public int sitter(int sitter, int what) {
            sitter0(sitter);
            what0(what, 2);
            Sitter s = now.sitters.get(sitter);
            return new int[] {s.cell, s.shawls, s.on ? 1 : 0}[what];
        }

        public int cell(int cell, int what) {
            cell0(cell);
            what0(what, 4);
            return new int[] {now.shut[cell] ? 1 : 0, now.free(cell) ? 1 : 0, now.airAt(cell), now.sitterAt(cell),
                (int) now.warm[cell]}[what];
        }

        public int warm(int cell) {
            return cell < 0 || cell > 35 ? 0 : Float.floatToIntBits(now.warm[cell]);
        }

        public int comes(int kind, int figure, int cell) {
            no(-2, kind < 0 || kind > 7);
            no(-4, figure < 0);
            no(-6, figure > 9 || now.airs.size() == 5);
            cell0(cell);
            no(-3, !now.free(cell));
            past.clear();
            now.airs.add(breath(kind, figure, cell, 0, false));
            return now.airs.size() - 1;
        }

        public int sitsDown(int cell) {
            cell0(cell);
            no(-6, now.sitters.size() == 6);
            no(-3, !now.free(cell));
            past.clear();
            Sitter s = new Sitter();
            s.cell = cell;
            now.sitters.add(s);
            return now.sitters.size() - 1;
        }

        public int shuts(int cell) {
            cell0(cell);
            no(-3, !now.empty(cell));
            keep();
            now.shut[cell] = !now.shut[cell];
            return now.shut[cell] ? 1 : 0;
        }

        public int warms(int cell, int n) {
            cell0(cell);
            range(n, -100, 100);
            keep();
            int old = (int) now.warm[cell];
            now.warm[cell] = n;
            return old;
        }

        public int sits(int sitter, int cell) {
            sitter0(sitter);
            cell0(cell);
            no(-3, !now.free(cell));
            keep();
            Sitter s = now.sitters.get(sitter);
            int old = s.cell;
            s.cell = cell;
            s.on = true;
            return old;
        }

        public int blows(int air, int way) {
            air0(air);
            what0(way, 3);
            keep();
            int old = now.airs.get(air).way;
            now.airs.get(air).way = way;
            return old;
        }

        public int wraps(int sitter, int shawls) {
            sitter0(sitter);
            range(shawls, 0, 9);
            keep();
            int old = now.sitters.get(sitter).shawls;
            now.sitters.get(sitter).shawls = shawls;
            return old;
        }

        public int step(int step, int n) {
            what0(step, 6);
            range(n, 0, 99);
            no(-6, now.hearth.size() == 6);
            keep();
            now.hearth.add(new int[] {step, n});
            return now.hearth.size();
        }

        public int clearHearth() {
            keep();
            int old = now.hearth.size();
            now.hearth.clear();
            return old;
        }

        public int turns(int n) {
            range(n, 1, 60);
            no(-6, now.turn + n > 999);
            keep();
            now.go(n);
            return now.taken;
        }

        public int back() {
            no(-3, past.isEmpty());
            now = past.removeLast();
            return past.size();
        }

        public int airThen(int air, int n) {
            air0(air);
            range(n, 0, 60);
            return now.then(n).airs.get(air).cell;
        }

        public int then(int n, int what) {
            range(n, 0, 60);
            what0(what, 2);
            World w = now.then(n);
            return new int[] {w.on(), w.taken, (int) w.airs.stream().filter(a -> a.crowned).count()}[what];
        }

        public int warmThen(int cell, int n) {
            return cell < 0 || cell > 35 || n < 0 || n > 60 ? 0 : Float.floatToIntBits(now.then(n).warm[cell]);
        }

        public int when(int sitter) {
            if (sitter != -1) {
                sitter0(sitter);
                return now.off(sitter) > 60 ? -9 : now.off(sitter);
            }
            int best = -9;
            for (int k = 0; k < now.sitters.size(); k++) {
                if (now.sitters.get(k).on && now.off(k) <= 60 && (best == -9 || now.off(k) < now.off(best))) {
                    best = k;
                }
            }
            return best;
        }

        public int sit(int sitter, int what) {
            sitter0(sitter);
            what0(what, 1);
            no(-3, !now.sitters.get(sitter).on);
            int[] best = {-1, -1};
            for (int c = 0; c < 36; c++) {
                if (now.free(c) || c == now.sitters.get(sitter).cell) {
                    World w = now.copy();
                    w.sitters.get(sitter).cell = c;
                    int off = w.off(sitter);
                    if (off > best[1]) {
                        best = new int[] {c, off};
                    }
                }
            }
            return best[what];
        }

        public int shut(int sitter, int n) {
            sitter0(sitter);
            range(n, 0, 30);
            no(-3, !now.sitters.get(sitter).on);
            for (int c = 0; c < 36; c++) {
                if (now.free(c) && (shutThen(c, n).on() >> sitter & 1) == 1) {
                    return c;
                }
            }
            return -9;
        }

        private World shutThen(int cell, int n) {
            World w = now.copy();
            w.shut[cell] = true;
            w.go(n);
            return w;
        }

        public int most(int n) {
            range(n, 0, 30);
            int best = -9;
            int on = Integer.bitCount(now.then(n).on());
            for (int c = 0; c < 36; c++) {
                if (now.free(c) && Integer.bitCount(shutThen(c, n).on()) > on) {
                    best = c;
                    on = Integer.bitCount(shutThen(c, n).on());
                }
            }
            return best;
        }

        public int leapt(int n, int what) {
            range(n, 1, 60);
            what0(what, 1);
            int[] best = {0, 0};
            for (int t = 1; t <= n; t++) {
                int more = now.then(t).taken - now.then(t - 1).taken;
                if (more > best[0]) {
                    best = new int[] {more, t};
                }
            }
            return best[what];
        }

        public int whatKind(int air, int what) {
            air0(air);
            what0(what, 1);
            int bits = 0;
            for (int k = 0; k < (what == 0 ? 8 : 10); k++) {
                boolean so = true;
                for (int t = 0; t < row.size(); t++) {
                    World w = now.copy();
                    Draught a = w.airs.get(air);
                    w.airs.set(air, breath(what == 0 ? k : a.kind, what == 0 ? a.figure : k, a.cell, a.way, a.crowned));
                    w.go(t);
                    so &= w.airs.get(air).cell == row.get(t);
                }
                bits |= so ? 1 << k : 0;
            }
            return bits;
        }

        public int howCold(int air, int n, int v) {
            air0(air);
            no(-4, n < 0 || v < -100);
            no(-6, n > 99 || v > 100);
            int bits = 0;
            for (int k = 0; k < 8; k++) {
                bits |= (int) breath(k, now.airs.get(air).figure, 0, 0, false).chills(n, now.turn) == v ? 1 << k : 0;
            }
            return bits;
        }

        public int two(int one, int other, int n) {
            sitter0(one);
            sitter0(other);
            no(-1, one == other);
            range(n, 1, 30);
            no(-3, !now.sitters.get(one).on || !now.sitters.get(other).on);
            for (int a = 0; a < 2; a++) {
                for (int b = 0; b < 2; b++) {
                    if (has(one, other, n, a, b)[0] >= has(one, other, n, 1 - a, b)[0]
                        && has(one, other, n, a, b)[1] >= has(one, other, n, a, 1 - b)[1]) {
                        return 10 * a + b;
                    }
                }
            }
            return -9;
        }

        private int[] has(int one, int other, int n, int a, int b) {
            World w = now.copy();
            int x = w.sitters.get(one).shawls;
            int y = w.sitters.get(other).shawls;
            if (a == 1 && b == 1) {
                w.sitters.get(one).shawls = y;
                w.sitters.get(other).shawls = x;
            } else if (a == 1) {
                w.sitters.get(one).shawls = 0;
                w.sitters.get(other).shawls = Math.min(9, x + y);
            } else if (b == 1) {
                w.sitters.get(one).shawls = Math.min(9, x + y);
                w.sitters.get(other).shawls = 0;
            }
            int[] has = {2 * a, 2 * b};
            for (int t = 0; t < n; t++) {
                w.go(1);
                has[0] += w.sitters.get(one).on ? 1 : 0;
                has[1] += w.sitters.get(other).on ? 1 : 0;
            }
            return has;
        }

        public long still(int sitter, int n, int t, int part) {
            sitter0(sitter);
            no(-4, n < 0 || t < 2);
            no(-6, n > 7 || t > 20);
            what0(part, 1);
            java.math.BigInteger above = java.math.BigInteger.valueOf(likely(now, sitter, n, t));
            java.math.BigInteger below = java.math.BigInteger.valueOf(t).pow(n);
            return (part == 0 ? above : below).divide(above.gcd(below)).longValueExact();
        }

        /** So many of t to the n cases. */
        private static long likely(World w, int sitter, int n, int t) {
            if (n == 0) {
                return w.sitters.get(sitter).on ? 1 : 0;
            }
            World still = w.copy();
            still.go(false);
            World windy = w.copy();
            windy.go(true);
            return likely(still, sitter, n - 1, t) + (t - 1) * likely(windy, sitter, n - 1, t);
        }

        public int coldest(int cell) {
            no(-1, cell < -1 || cell > 35);
            int best = 0;
            int many = 0;
            for (int c = 0; c < 36; c++) {
                best = now.warm[c] < now.warm[best] ? c : best;
                many += cell >= 0 && !(now.warm[c] > now.warm[cell]) ? 1 : 0;
            }
            return cell == -1 ? best : many;
        }

        public int sum(int what) {
            what0(what, 1);
            float s = 0;
            for (float w : now.warm) {
                s += w;
            }
            return what == 0 ? Float.floatToIntBits(s) : (int) (s / 36.0f * 100.0f);
        }

        public int nearest(int sitter, int what) {
            sitter0(sitter);
            what0(what, 1);
            for (int far = 0; far <= 10; far++) {
                for (int k = 0; k < now.airs.size(); k++) {
                    int a = now.airs.get(k).cell;
                    int s = now.sitters.get(sitter).cell;
                    if (Math.abs(a / 6 - s / 6) + Math.abs(a % 6 - s % 6) == far) {
                        return what == 0 ? k : far;
                    }
                }
            }
            return -9;
        }

        public int kinds(int kind) {
            what0(kind, 7);
            return (int) now.airs.stream().filter(a -> a.kind == kind).count();
        }

        private void peg0(int p) {
            no(-1, p < 0 || p > 2);
        }

        private int[] place(int p, int i) {
            no(-11, peg[p] == null);
            no(-13, i < 0 || i >= peg[p].length);
            return peg[p][i];
        }

        public int pegs(int p, int sort, int n) {
            peg0(p);
            what0(sort, 2);
            no(-6, n > 12);
            no(-14, n < 0);
            peg[p] = new int[n][];
            pegSort[p] = sort;
            return 1;
        }

        public int hangs(int p, int i, int sort, int thickness) {
            peg0(p);
            no(-2, sort != 1 && sort != 2);
            range(thickness, 0, 9);
            place(p, i);
            no(-12, pegSort[p] != 0 && pegSort[p] != sort);
            peg[p][i] = new int[] {sort, thickness};
            return 1;
        }

        public int coat(int p, int i) {
            peg0(p);
            no(-15, place(p, i) == null);
            return 10 * place(p, i)[0] + place(p, i)[1];
        }

        public int wears(int sitter, int p, int i) {
            sitter0(sitter);
            peg0(p);
            int[] c = place(p, i);
            no(-15, c == null);
            keep();
            peg[p][i] = null;
            Sitter s = now.sitters.get(sitter);
            s.shawls = Math.min(9, s.shawls + c[0] * c[1]);
            return s.shawls;
        }

        public int moves(int p, int i, int q, int j, int n) {
            peg0(p);
            peg0(q);
            no(-11, peg[p] == null || peg[q] == null);
            no(-13, i < 0 || j < 0 || n < 0);
            no(-13, (long) i + n > peg[p].length || (long) j + n > peg[q].length);
            int[][] were = peg[p].clone();
            for (int k = 0; k < n; k++) {
                int[] c = were[i + k];
                no(-12, c != null && pegSort[q] != 0 && pegSort[q] != c[0]);
                peg[q][j + k] = c;
            }
            return n;
        }

        public int row(int v) {
            no(-4, v < 0);
            no(-6, v > 99 || row.size() == 12);
            row.add(v);
            return row.size();
        }

        public int judge() {
            List<Integer> were = new ArrayList<>(row);
            row.clear();
            for (int k = 0; k < were.size(); k++) {
                if (k >= now.sitters.size()) {
                    return k;
                }
                Sitter s = now.sitters.get(k);
                if (were.get(k) != (s.on ? s.cell : 36)) {
                    return k;
                }
            }
            return -9;
        }

        public int clear() {
            int n = row.size();
            row.clear();
            return n;
        }

        public int lots(int n, int z, int what) {
            range(n, 1, 20);
            what0(what, 1);
            int[] all = {0, 0};
            for (int k = 0; k < n; k++) {
                World w = now.copy();
                for (Draught a : w.airs) {
                    z = (int) (z * 1103515245L + 12345L);
                    a.way = (int) ((z & 0xffffffffL) % 0x80000000L / 65536 % 4);
                }
                w.go(10);
                all[0] += w.taken - now.taken;
                all[1] += Integer.bitCount(w.on());
            }
            return all[what];
        }

        public int image() {
            image = now.copy();
            return now.turn;
        }

        public int restore() {
            no(-3, image == null);
            now = image.copy();
            past.clear();
            return now.turn;
        }

        public int count(int what) {
            if (what >= 11 && what <= 16) {
                return refusals[what - 10];
            }
            int shut = 0;
            for (boolean s : now.shut) {
                shut += s ? 1 : 0;
            }
            int[] counts = {now.airs.size(), now.sitters.size(), now.turn, now.taken, now.on(), now.hearth.size(), shut,
                letters.length(), row.size(), past.size()};
            return what < 0 || what >= counts.length ? -9 : counts[what];
        }
    }

    // ---- the runs

    /** Each call with what its arguments are; a weight tells how often it comes. */
    private static final String[][] CALL = {
        {"house", "3"}, {"air", "2", "air", "what6"}, {"sitter", "2", "sitter", "what3"}, {"cell", "2", "cell", "what5"},
        {"warm", "3", "cell"}, {"comes", "3", "kind", "figure", "cell"}, {"sitsDown", "3", "cell"}, {"shuts", "3", "cell"},
        {"warms", "4", "cell", "degree"}, {"sits", "5", "sitter", "cell"}, {"blows", "4", "air", "way"},
        {"wraps", "5", "sitter", "figure"}, {"step", "4", "step", "n99"}, {"clearHearth", "1"}, {"turns", "6", "few"},
        {"back", "4"}, {"airThen", "2", "air", "n60"}, {"then", "2", "n60", "what3"}, {"warmThen", "2", "cell", "n60"},
        {"when", "3", "sitter"}, {"sit", "2", "sitter", "what2"}, {"shut", "2", "sitter", "n30"}, {"most", "2", "n30"},
        {"leapt", "2", "n60", "what2"}, {"whatKind", "3", "air", "what2"}, {"howCold", "3", "air", "n99", "degree"},
        {"two", "3", "sitter", "sitter", "n30"}, {"still", "3", "sitter", "n7", "n20", "what2"}, {"coldest", "2", "cell"},
        {"sum", "2", "what2"}, {"nearest", "2", "sitter", "what2"}, {"kinds", "2", "kind"}, {"pegs", "2", "peg", "what3", "n12"},
        {"hangs", "6", "peg", "n12", "sort", "figure"}, {"coat", "3", "peg", "n12"}, {"wears", "3", "sitter", "peg", "n12"},
        {"moves", "4", "peg", "small", "peg", "small", "small"}, {"row", "2", "told"}, {"judge", "1"}, {"clear", "1"},
        {"lots", "2", "n20", "any", "what2"}, {"image", "1"}, {"restore", "1"}, {"count", "2", "count"}, {"feed", "1", "letter"}};

    private static int between(Random r, int least, int most) {
        return least + r.nextInt(most - least + 1);
    }

    private static int argument(Random r, String of, Model model) {
        if (r.nextInt(150) == 0) {
            return new int[] {Integer.MIN_VALUE, Integer.MAX_VALUE, -2, -1, 1000}[r.nextInt(5)];
        }
        switch (of) {
            case "air": return between(r, r.nextInt(12) == 0 ? -1 : 0, Math.max(0, model.now.airs.size() - (r.nextInt(12) == 0 ? 0 : 1)));
            case "sitter": return between(r, r.nextInt(12) == 0 ? -1 : 0, Math.max(0, model.now.sitters.size() - (r.nextInt(12) == 0 ? 0 : 1)));
            case "cell": return r.nextInt(30) == 0 ? between(r, -1, 36) : between(r, 0, 35);
            case "kind": return r.nextInt(30) == 0 ? between(r, -1, 8) : between(r, 0, 7);
            case "figure": return r.nextInt(30) == 0 ? between(r, -1, 10) : between(r, 0, 9);
            case "way": return r.nextInt(30) == 0 ? between(r, -1, 4) : between(r, 0, 3);
            case "step": return r.nextInt(30) == 0 ? between(r, -1, 7) : between(r, 0, 6);
            case "sort": return r.nextInt(30) == 0 ? between(r, 0, 3) : between(r, 1, 2);
            case "degree": return r.nextInt(3) == 0 ? between(r, -101, 101) : between(r, -5, 30);
            case "few": return r.nextInt(10) == 0 ? between(r, 0, 61) : between(r, 1, 5);
            case "n7": return between(r, 0, r.nextInt(10) == 0 ? 8 : 5);
            case "n12": return between(r, r.nextInt(12) == 0 ? -1 : 0, r.nextInt(12) == 0 ? 13 : 6);
            case "small": return between(r, r.nextInt(12) == 0 ? -1 : 0, 5);
            case "n20": return between(r, 0, r.nextInt(3) == 0 ? 21 : 5);
            case "n30": return r.nextInt(12) == 0 ? between(r, -1, 31) : between(r, 1, 12);
            case "n60": return r.nextInt(6) == 0 ? between(r, -1, 61) : between(r, 1, 15);
            case "n99": return r.nextInt(8) == 0 ? between(r, -1, 100) : between(r, 0, 40);
            case "peg": return r.nextInt(30) == 0 ? between(r, -1, 3) : between(r, 0, 2);
            case "letter": return between(r, -1, 256);
            case "count": return between(r, -1, 17);
            case "told": return toldPlace(r, model);
            case "any": return r.nextInt();
            default: return r.nextInt(20) == 0 ? between(r, -1, of.charAt(4) - '0') : between(r, 0, of.charAt(4) - '1');
        }
    }

    /** Often what is so, so that rows are not wrong at once. */
    private static int toldPlace(Random r, Model model) {
        int k = model.row.size();
        if (r.nextInt(2) == 0 && k < model.now.sitters.size()) {
            Sitter s = model.now.sitters.get(k);
            return s.on ? s.cell : 36;
        }
        if (r.nextInt(3) > 0 && !model.now.airs.isEmpty()) {
            return model.now.then(k).airs.get(0).cell;
        }
        return between(r, -1, 100);
    }

    private static String two(int n) {
        return n < 10 ? "0" + n : "" + n;
    }

    private static String statement(Random r) {
        String cell = two(r.nextInt(40) == 0 ? 36 : r.nextInt(36));
        switch (r.nextInt(10)) {
            case 0: case 1: case 2:
                return "a" + r.nextInt(r.nextInt(20) == 0 ? 10 : 8) + r.nextInt(10) + cell + r.nextInt(r.nextInt(20) == 0 ? 5 : 4) + ";";
            case 3: case 4: case 5:
                return "p" + cell + r.nextInt(10) + ";";
            case 6:
                return "d" + cell + ";";
            case 7:
                return "w" + cell + two(r.nextInt(100)) + ";";
            case 8:
                return "t" + two(r.nextInt(r.nextInt(6) == 0 ? 70 : 5)) + ";";
            default:
                StringBuilder s = new StringBuilder("l");
                for (int k = r.nextInt(8) == 0 ? 8 : r.nextInt(7); k > 0; k--) {
                    char step = "tmasglc".charAt(r.nextInt(7));
                    s.append(step).append(step == 'c' ? "" : two(r.nextInt(30)));
                }
                return s.append(';').toString();
        }
    }

    private static String text(Random r) {
        StringBuilder s = new StringBuilder();
        for (int k = r.nextInt(7); k >= 0; k--) {
            s.append(statement(r));
        }
        if (r.nextInt(3) == 0) {
            int at = r.nextInt(s.length());
            switch (r.nextInt(3)) {
                case 0: s.setCharAt(at, "apdwlt;0123456789cmsg\u00e9".charAt(r.nextInt(22))); break;
                case 1: s.deleteCharAt(at); break;
                default: s.setLength(at);
            }
        }
        return s.toString();
    }

    private static final class Run {
        final DraughtsTake made = new DraughtsTake();
        final Model model = new Model();
        final StringBuilder told = new StringBuilder();
        int wrong;

        void call(String name, int... arguments) throws Exception {
            Class<?>[] types = new Class<?>[arguments.length];
            Object[] values = new Object[arguments.length];
            for (int k = 0; k < arguments.length; k++) {
                types[k] = int.class;
                values[k] = arguments[k];
            }
            long want = due(name, types, values);
            long got = ((Number) DraughtsTake.class.getMethod(name, types).invoke(made, values)).longValue();
            told.append(name).append(Arrays.toString(arguments)).append(" = ").append(got).append('\n');
            if (got != want) {
                wrong++;
                System.out.println(told + "due is " + want);
            }
            for (int k = 1; k < 7; k++) {
                if (made.count(10 + k) != model.refusals[k]) {
                    wrong++;
                    System.out.println(told + "refusals with -" + k + ": " + made.count(10 + k) + ", due are " + model.refusals[k]);
                }
            }
        }

        private long due(String name, Class<?>[] types, Object[] values) throws Exception {
            Method m = Model.class.getMethod(name, types);
            try {
                return ((Number) m.invoke(model, values)).longValue();
            } catch (InvocationTargetException e) {
                if (!(e.getCause() instanceof No)) {
                    throw e;
                }
                int number = ((No) e.getCause()).number;
                if (number > -10) {
                    model.refusals[-number]++;
                }
                return name.equals("still") ? 4000000000000000000L - number : number;
            }
        }

        void feed(String text) throws Exception {
            for (int k = 0; k < text.length(); k++) {
                call("feed", text.charAt(k));
            }
        }

        void lookAtAll() throws Exception {
            for (int c = 0; c < 36; c++) {
                call("warm", c);
                for (int what = 0; what < 4; what++) {
                    call("cell", c, what);
                }
            }
            for (int k = 0; k < 5; k++) {
                for (int what = 0; what < 6; what++) {
                    call("air", k, what);
                }
            }
            for (int k = 0; k < 6; k++) {
                for (int what = 0; what < 3; what++) {
                    call("sitter", k, what);
                }
            }
            for (int k = 0; k < 36; k++) {
                call("coat", k / 12, k % 12);
            }
            for (int what = -1; what < 18; what++) {
                call("count", what);
            }
        }
    }

    /** A small house in which two sitters are near to the cold and to airs, looked at by all that is only thought of. */
    private static int lookAhead(long seed) throws Exception {
        Random r = new Random(seed);
        StringBuilder s = new StringBuilder();
        for (int k = r.nextInt(3); k > 0; k--) {
            s.append("a").append(r.nextInt(8)).append(r.nextInt(10)).append(two(r.nextInt(36))).append(r.nextInt(4)).append(';');
        }
        for (int k = 0; k < 2; k++) {
            String cell = two(r.nextInt(36));
            s.append("p").append(cell).append(r.nextInt(6)).append(";w").append(cell).append(two(r.nextInt(16))).append(';');
        }
        if (r.nextInt(3) == 0) {
            s.append('l').append("tas".charAt(r.nextInt(3))).append(two(r.nextInt(10))).append(';');
        }
        Run run = new Run();
        run.feed(s.toString());
        run.call("house");
        run.call("two", 0, 1, 1 + r.nextInt(8));
        run.call("two", 1, 0, 1 + r.nextInt(30));
        run.call("still", 0, r.nextInt(5), 2 + r.nextInt(19), 0);
        run.call("sit", r.nextInt(2), r.nextInt(2));
        run.call("shut", r.nextInt(2), r.nextInt(31));
        run.call("most", r.nextInt(31));
        run.call("leapt", 1 + r.nextInt(20), r.nextInt(2));
        run.call("when", -1);
        if (run.wrong > 0) {
            System.out.println("house of seed " + seed);
        }
        return run.wrong;
    }

    private static int run(long seed, List<String[]> calls) throws Exception {
        Random r = new Random(seed);
        Run run = new Run();
        for (int k = 0; k < CALLS && run.wrong == 0; k++) {
            if (k == 0 || r.nextInt(40) == 0) {
                run.feed(text(r));
                run.call("house");
            }
            String[] call = calls.get(r.nextInt(calls.size()));
            int[] arguments = new int[call.length - 2];
            for (int a = 0; a < arguments.length; a++) {
                arguments[a] = argument(r, call[a + 2], run.model);
            }
            if (call[0].equals("house")) {
                run.feed(text(r));
            }
            run.call(call[0], arguments);
            if (k % 12 == 0) {
                run.lookAtAll();
            }
        }
        if (run.wrong > 0) {
            System.out.println("with seed " + seed);
        }
        return run.wrong;
    }

    public static void main(String[] args) throws Exception {
        List<String[]> calls = new ArrayList<>();
        for (String[] call : CALL) {
            for (int k = 0; k < Integer.parseInt(call[1]); k++) {
                calls.add(call);
            }
        }
        int runs = args.length > 0 ? Integer.parseInt(args[0]) : RUNS;
        int wrong = 0;
        for (int seed = 0; seed < runs && wrong == 0; seed++) {
            wrong += run(seed, calls) + lookAhead(2L * seed) + lookAhead(2L * seed + 1);
        }
        System.out.println(wrong == 0 ? runs + " runs answer as the model does" : "not as the model");
        if (wrong != 0) {
            System.exit(1);
        }
    }
}
