import java.math.BigInteger;
import java.util.ArrayList;
import java.util.Arrays;
import java.util.Collections;
import java.util.HashSet;
import java.util.List;
import java.util.Set;
import java.util.TreeSet;

/**
 * The document once more, by trying everything out, without regard to time or room: pictures are really
 * turned, rows and orders are all gone through, fractions are big numbers. Tests compare SlideNight with it.
 */
final class NaiveNight {
    static final class Fault extends RuntimeException {
        private static final long serialVersionUID = 1;
        final int answer;

        Fault(int number, int place) {
            answer = -1000 * number - place;
        }
    }

    static final class Refused extends RuntimeException {
        private static final long serialVersionUID = 1;
    }

    static final class Picture {
        char[][] signs = new char[5][5];
        int kind;
        int maker;
        int worth;
        int day;
        int way;
        int corner = -1;

        Picture copy() {
            Picture p = new Picture();
            p.signs = signs;
            p.kind = kind;
            p.maker = maker;
            p.worth = worth;
            p.day = day;
            p.way = way;
            p.corner = corner;
            return p;
        }

        boolean right(int w) {
            return Arrays.deepEquals(by(signs, w), signs);
        }

        boolean wrong() {
            return !right(way);
        }
    }

    static final class Things {
        Picture[] slides = new Picture[32];
        int[][] lookers = new int[8][];
        int lamps = 1;
        List<int[]> clues = new ArrayList<>();
        List<int[]> links = new ArrayList<>();
        int x = 1;

        Things copy() {
            Things t = new Things();
            for (int i = 0; i < 32; i++) {
                t.slides[i] = slides[i] == null ? null : slides[i].copy();
            }
            t.lookers = lookers.clone();
            t.lamps = lamps;
            t.clues = new ArrayList<>(clues);
            t.links = new ArrayList<>(links);
            t.x = x;
            return t;
        }

        int draw() {
            x = (int) ((25173L * x + 13849) % 65536);
            return x % 10;
        }

        int wrongs() {
            int n = 0;
            for (Picture p : slides) {
                n += p != null && p.wrong() ? 1 : 0;
            }
            return n;
        }
    }

    interface Asked {
        int of(char letter);
    }

    interface Sum {
        int of(Asked a);
    }

    interface Test {
        boolean of(Asked a);
    }

    static final class Clause {
        char letter;
        Sum sum;
        Test test;
    }

    private List<Integer> tape = new ArrayList<>();
    private Things now = new Things();
    private Things kept;
    private List<Integer> tray = new ArrayList<>();
    private List<Clause> law = new ArrayList<>();

    // ---- pictures ----

    static char[][] by(char[][] p, int way) {
        char[][] q = new char[5][5];
        for (int y = 0; y < 5; y++) {
            for (int x = 0; x < 5; x++) {
                q[y][x] = way >= 4 ? p[y][4 - x] : p[y][x];
            }
        }
        for (int k = 0; k < way % 4; k++) {
            char[][] r = new char[5][5];
            for (int y = 0; y < 5; y++) {
                for (int x = 0; x < 5; x++) {
                    r[x][4 - y] = q[y][x];
                }
            }
            q = r;
        }
        return q;
    }

    private static final char[][] SAMPLE = {"ab...".toCharArray(), ".....".toCharArray(), ".....".toCharArray(),
        ".....".toCharArray(), ".....".toCharArray()};

    static int then(int a, int b) {
        char[][] both = by(by(SAMPLE, a), b);
        for (int w = 0; w < 8; w++) {
            if (Arrays.deepEquals(by(SAMPLE, w), both)) {
                return w;
            }
        }
        throw new IllegalStateException();
    }

    static int turn(int a, int b) {
        for (int w = 0; w < 8; w++) {
            if (then(a, w) == b) {
                return w;
            }
        }
        throw new IllegalStateException();
    }

    private static boolean in(int v, int least, int most) {
        return least <= v && v <= most;
    }

    private Picture told(int i) {
        return in(i, 0, 31) ? now.slides[i] : null;
    }

    // ---- telling ----

    int feed(int... ints) {
        if (tape.size() > 240) {
            return -1;
        }
        for (int v : ints) {
            for (byte b : new byte[] {(byte) (v >> 24), (byte) (v >> 16), (byte) (v >> 8), (byte) v}) {
                tape.add(b & 255);
            }
        }
        return tape.size();
    }

    private List<Integer> take(int n) {
        List<Integer> t = new ArrayList<>(tape.subList(0, n));
        tape.clear();
        return t;
    }

    boolean slide(int i, int kind, int maker, int worth) {
        if (!in(i, 0, 31) || !in(kind, 0, 3) || !in(maker, 0, 3) || !in(worth, 0, 99) || tape.size() < 25) {
            return false;
        }
        List<Integer> t = take(25);
        Picture p = new Picture();
        for (int k = 0; k < 25; k++) {
            int c = t.get(k);
            if (c != 46 && (c < 97 || c > 122)) {
                return false;
            }
            p.signs[k / 5][k % 5] = (char) c;
        }
        p.kind = kind;
        p.maker = maker;
        p.worth = worth;
        p.corner = now.slides[i] == null ? -1 : now.slides[i].corner;
        now.slides[i] = p;
        return true;
    }

    boolean put(int i, int way) {
        if (told(i) == null || !in(way, 0, 7)) {
            return false;
        }
        told(i).way = way;
        return true;
    }

    boolean day(int i, int day) {
        if (told(i) == null || !in(day, 0, 99)) {
            return false;
        }
        told(i).day = day;
        return true;
    }

    boolean gone(int i) {
        if (told(i) == null) {
            return false;
        }
        now.slides[i] = null;
        now.clues.removeIf(c -> c[0] == i || c[1] == i);
        now.links.removeIf(c -> c[0] == i || c[1] == i);
        return true;
    }

    boolean looker(int l, int eyes, int patience) {
        if (!in(l, 0, 7) || !in(eyes, 0, 9) || !in(patience, 0, 9999)) {
            return false;
        }
        now.lookers[l] = new int[] {eyes, patience};
        return true;
    }

    boolean lamps(int n) {
        if (!in(n, 0, 9)) {
            return false;
        }
        now.lamps = n;
        return true;
    }

    // ---- texts ----

    private List<Integer> text;
    private int at;

    private int sign() {
        return at < text.size() ? text.get(at) : -1;
    }

    private boolean digit() {
        return in(sign(), '0', '9');
    }

    private void need(boolean stands) {
        if (!stands) {
            throw new Fault(1, at);
        }
    }

    private void pass(char c) {
        need(sign() == c);
        at++;
    }

    int tray(int n) {
        if (!in(n, 1, 120) || tape.size() < n) {
            return -1;
        }
        text = take(n);
        at = 0;
        try {
            List<Integer> read = new ArrayList<>();
            items(read, 0);
            need(at == n);
            tray = read;
            return read.size();
        } catch (Fault f) {
            return f.answer;
        }
    }

    private void items(List<Integer> out, int open) {
        while (true) {
            int start = at;
            if (sign() == '(') {
                if (open == 4) {
                    throw new Fault(5, at);
                }
                at++;
                int from = out.size();
                items(out, open + 1);
                pass(')');
                need(in(sign(), '2', '9'));
                List<Integer> once = new ArrayList<>(out.subList(from, out.size()));
                for (int k = sign() - '0'; k > 1; k--) {
                    out.addAll(once);
                }
                at++;
            } else {
                int a = number();
                int b = a;
                if (sign() == '-') {
                    at++;
                    b = number();
                }
                for (int v = a; a <= b ? v <= b : v >= b; v += a <= b ? 1 : -1) {
                    out.add(v);
                }
            }
            if (out.size() > 60) {
                throw new Fault(6, start);
            }
            if (sign() != ',') {
                return;
            }
            at++;
        }
    }

    private int number() {
        int start = at;
        need(digit());
        int v = sign() - '0';
        at++;
        if (digit()) {
            v = v * 10 + sign() - '0';
            at++;
        }
        if (v > 31) {
            throw new Fault(3, start);
        }
        return v;
    }

    int law(int n) {
        if (!in(n, 1, 240) || tape.size() < n) {
            return -1;
        }
        text = take(n);
        at = 0;
        try {
            List<Clause> read = new ArrayList<>();
            do {
                if (!read.isEmpty()) {
                    pass(';');
                }
                need(sign() >= 0 && "wnstjxpb".indexOf(sign()) >= 0);
                if (read.size() == 16) {
                    throw new Fault(4, at);
                }
                Clause c = new Clause();
                c.letter = (char) sign();
                at++;
                c.sum = sum(0);
                pass('(');
                c.test = either(1);
                pass(')');
                read.add(c);
            } while (at < n);
            law = read;
            return read.size();
        } catch (Fault f) {
            return f.answer;
        }
    }

    private int open(int depth) {
        if (depth == 6) {
            throw new Fault(5, at);
        }
        at++;
        return depth + 1;
    }

    private Test either(int depth) {
        Test first = all(depth);
        if (sign() != '|') {
            return first;
        }
        at++;
        Test rest = either(depth);
        return a -> first.of(a) || rest.of(a);
    }

    private Test all(int depth) {
        Test first = piece(depth);
        if (sign() != '&') {
            return first;
        }
        at++;
        Test rest = all(depth);
        return a -> first.of(a) && rest.of(a);
    }

    private Test piece(int depth) {
        if (sign() == '!') {
            Test t = piece(open(depth));
            return a -> !t.of(a);
        }
        if (sign() == '(') {
            Test t = either(open(depth));
            pass(')');
            return t;
        }
        Sum left = sum(depth);
        int sign = sign();
        need(sign == '<' || sign == '>' || sign == '=');
        at++;
        Sum right = sum(depth);
        return a -> {
            int l = left.of(a);
            int r = right.of(a);
            return sign == '<' ? l < r : sign == '>' ? l > r : l == r;
        };
    }

    private Sum sum(int depth) {
        Sum so = term(depth);
        while (sign() == '+' || sign() == '-') {
            Sum left = so;
            boolean plus = sign() == '+';
            at++;
            Sum right = term(depth);
            so = a -> plus ? left.of(a) + right.of(a) : left.of(a) - right.of(a);
        }
        return so;
    }

    private Sum term(int depth) {
        Sum so = factor(depth);
        while (sign() == '*' || sign() == '/' || sign() == '%') {
            Sum left = so;
            int sign = sign();
            at++;
            Sum right = factor(depth);
            so = a -> {
                int l = left.of(a);
                int r = right.of(a);
                if (sign == '*') {
                    return l * r;
                }
                if (r == 0) {
                    throw new Refused();
                }
                return sign == '/' ? l / r : l % r;
            };
        }
        return so;
    }

    private Sum factor(int depth) {
        if (sign() == '[') {
            Sum s = sum(open(depth));
            pass(']');
            return s;
        }
        if (digit()) {
            int v = 0;
            for (int k = 0; digit(); k++) {
                if (k == 5) {
                    throw new Fault(2, at);
                }
                v = v * 10 + sign() - '0';
                at++;
            }
            int value = v;
            return a -> value;
        }
        need(sign() >= 0 && "ikayqmovlez".indexOf(sign()) >= 0);
        char letter = (char) sign();
        at++;
        return a -> a.of(letter);
    }

    private int value(char letter, int i, int way, int o, int... looker) {
        Picture p = now.slides[i];
        Asked a = v -> switch (v) {
            case 'i' -> i;
            case 'k' -> p.kind;
            case 'a' -> p.maker;
            case 'y' -> p.day;
            case 'q' -> way % 4;
            case 'm' -> way / 4;
            case 'o' -> o;
            case 'v' -> p.worth;
            case 'l' -> looker.length == 0 ? 0 : looker[0];
            case 'e' -> looker.length == 0 ? 0 : looker[1];
            default -> looker.length == 0 ? 0 : looker[2];
        };
        int most = letter == 'p' || letter == 'b' ? 999 : "njx".indexOf(letter) >= 0 ? 10 : 99;
        for (Clause c : law) {
            boolean holds = false;
            try {
                holds = c.letter == letter && c.test.of(a);
            } catch (Refused r) {
                holds = false;
            }
            if (holds) {
                try {
                    return Math.max(0, Math.min(most, c.sum.of(a)));
                } catch (Refused r) {
                    return 0;
                }
            }
        }
        return 0;
    }

    // ---- looking ----

    int ways(int a, int b, int what) {
        if (!in(a, 0, 7) || !in(b, 0, 7) || !in(what, 0, 2)) {
            return -1;
        }
        return what == 0 ? then(a, b) : what == 1 ? turn(a, 0) : turn(a, b);
    }

    int shown(int i, int x, int y) {
        if (told(i) == null || !in(x, 0, 4) || !in(y, 0, 4)) {
            return -1;
        }
        return by(told(i).signs, told(i).way)[y][x];
    }

    int slideIs(int i, int what) {
        Picture p = told(i);
        if (p == null || !in(what, 0, 7)) {
            return -1;
        }
        int alike = 0;
        Set<String> unlike = new HashSet<>();
        for (int w = 0; w < 8; w++) {
            alike |= p.right(w) ? 1 << w : 0;
            unlike.add(Arrays.deepToString(by(p.signs, w)));
        }
        return new int[] {p.way, p.wrong() ? 1 : 0, alike, unlike.size(), p.kind, p.maker, p.worth, p.day}[what];
    }

    int inTray(int k) {
        return in(k, 0, tray.size() - 1) ? tray.get(k) : -1;
    }

    // ---- evenings ----

    private int[] spend() {
        int[] r = new int[8];
        int[] left = new int[8];
        Set<Integer> awake = new TreeSet<>();
        for (int l = 0; l < 8; l++) {
            if (now.lookers[l] != null && now.lookers[l][1] > 0) {
                awake.add(l);
                left[l] = now.lookers[l][1];
            }
        }
        for (int i : tray) {
            Picture p = now.slides[i];
            if (p == null) {
                continue;
            }
            if (now.lamps == 0) {
                break;
            }
            int o = r[1];
            int seconds = value('s', i, p.way, o);
            int seen = 0;
            if (p.wrong()) {
                for (int l : awake) {
                    seen += now.draw() < value('n', i, p.way, o, l, now.lookers[l][0], left[l]) ? 1 : 0;
                }
            }
            if (seen > 0) {
                r[2]++;
                int from = p.way;
                for (int t = 1; t < 8; t++) {
                    r[3]++;
                    seconds += value('t', i, t, o);
                    p.way = then(from, t);
                    if (now.draw() < value('j', i, p.way, o)) {
                        r[4]++;
                        break;
                    }
                    if (!p.wrong()) {
                        break;
                    }
                }
            }
            if (now.draw() < value('x', i, p.way, o)) {
                r[5]++;
                now.lamps--;
            }
            for (int l : new ArrayList<>(awake)) {
                left[l] -= seconds;
                if (left[l] <= 0) {
                    awake.remove(l);
                }
            }
            r[0] += seconds;
            r[1]++;
        }
        for (int l : awake) {
            r[6] |= 1 << l;
        }
        r[7] = now.wrongs();
        return r;
    }

    int evening() {
        return spend()[0];
    }

    int tried(int what) {
        Things before = now.copy();
        int[] r = spend();
        now = before;
        return in(what, 0, 7) ? r[what] : -1;
    }

    // ---- odds ----

    private static long part(BigInteger above, BigInteger below, int what) {
        BigInteger g = above.gcd(below);
        return (what == 0 ? above : below).divide(g).longValueExact();
    }

    private static BigInteger big(long v) {
        return BigInteger.valueOf(v);
    }

    int odds(int i, int way, int n, int what) {
        if (told(i) == null || !in(way, 0, 7) || !in(n, 0, 8) || !in(what, 0, 1) || tape.size() < 3 * n) {
            return -1;
        }
        List<Integer> t = take(3 * n);
        int all = 0;
        int mine = 0;
        for (int w = 0; w < 8; w++) {
            char[][] p = by(told(i).signs, w);
            boolean fits = true;
            for (int k = 0; k < n; k++) {
                int x = t.get(3 * k);
                int y = t.get(3 * k + 1);
                fits &= x < 5 && y < 5 && p[y][x] == t.get(3 * k + 2);
            }
            all += fits ? value('w', i, w, 0) : 0;
            mine += fits && w == way ? value('w', i, w, 0) : 0;
        }
        return all == 0 ? -2 : (int) part(big(mine), big(all), what);
    }

    private int[] bestRow;
    private long bestCost;

    long toTurn(int i, int what) {
        if (told(i) == null || !in(what, 0, 6) && !in(what, 20, 21)) {
            return -1;
        }
        int[] often = new int[8];
        int[] takes = new int[8];
        long all = 0;
        boolean[] right = new boolean[8];
        for (int w = 0; w < 8; w++) {
            often[w] = value('w', i, w, 0);
            takes[w] = value('t', i, w, 0);
            right[w] = told(i).right(w);
            all += often[w];
        }
        if (all == 0) {
            return -2;
        }
        bestRow = null;
        rows(new int[7], 0, often, takes, right);
        return what < 7 ? bestRow[what] : part(big(bestCost), big(all), what - 20);
    }

    private static final int[][] THEN = new int[8][8];

    static {
        for (int a = 0; a < 8; a++) {
            for (int b = 0; b < 8; b++) {
                THEN[a][b] = then(a, b);
            }
        }
    }

    private void rows(int[] row, int n, int[] often, int[] takes, boolean[] right) {
        Set<Integer> been = new HashSet<>();
        int w = 0;
        been.add(0);
        for (int k = 0; k < n; k++) {
            w = THEN[w][row[k]];
            been.add(w);
        }
        if (been.size() < n + 1) {
            return;
        }
        if (n < 7) {
            for (int t = 1; t < 8; t++) {
                row[n] = t;
                rows(row, n + 1, often, takes, right);
            }
            return;
        }
        long cost = 0;
        for (int first = 0; first < 8; first++) {
            int in = first;
            for (int k = 0; !right[in]; k++) {
                cost += (long) often[first] * takes[row[k]];
                in = THEN[in][row[k]];
            }
        }
        if (bestRow == null || cost < bestCost) {
            bestRow = row.clone();
            bestCost = cost;
        }
    }

    private BigInteger[] seen(int i) {
        BigInteger nobody = BigInteger.ONE;
        BigInteger all = BigInteger.ONE;
        for (int l = 0; l < 8; l++) {
            if (now.lookers[l] != null) {
                int n = value('n', i, told(i).way, 0, l, now.lookers[l][0], now.lookers[l][1]);
                nobody = nobody.multiply(big(10 - n));
                all = all.multiply(big(10));
            }
        }
        return new BigInteger[] {all.subtract(nobody), all};
    }

    private int turning(int i) {
        int s = 0;
        for (int t = 1; t < 8; t++) {
            s += value('t', i, t, 0);
            if (told(i).right(then(told(i).way, t))) {
                break;
            }
        }
        return s;
    }

    long leave(int i, int what) {
        if (!in(what, 0, 1)) {
            return -1;
        }
        if (told(i) == null) {
            return -1000000000;
        }
        if (!told(i).wrong()) {
            return what;
        }
        BigInteger[] f = seen(i);
        BigInteger above = f[0].multiply(big(value('p', i, told(i).way, 0))).subtract(f[1].multiply(big(turning(i))));
        return part(above, f[1], what);
    }

    boolean sure(int i, int corner) {
        if (told(i) == null || !in(corner, 0, 3)) {
            return false;
        }
        told(i).corner = corner;
        return true;
    }

    private static int cornerBy(int corner, int way) {
        char[][] p = new char[5][5];
        int[][] places = {{0, 0}, {4, 0}, {4, 4}, {0, 4}};
        p[places[corner][1]][places[corner][0]] = 'd';
        char[][] q = by(p, way);
        for (int c = 0; c < 4; c++) {
            if (q[places[c][1]][places[c][0]] == 'd') {
                return c;
            }
        }
        throw new IllegalStateException();
    }

    int dots(int maker, int what) {
        if (!in(maker, 0, 3) || !in(what, -1, 3)) {
            return -1;
        }
        int corners = 0;
        int ways = 0;
        for (int c = 0; c < 4; c++) {
            boolean fits = true;
            for (Picture p : now.slides) {
                if (p != null && p.maker == maker && p.corner >= 0) {
                    fits &= cornerBy(c, p.way) == p.corner;
                }
            }
            corners |= fits ? 1 << c : 0;
            for (int w = 0; w < 8; w++) {
                ways |= fits && cornerBy(c, w) == what ? 1 << w : 0;
            }
        }
        return what < 0 ? corners : ways;
    }

    long lightBox(int seconds, int what) {
        if (!in(seconds, 0, 9999) || !in(what, 0, 3)) {
            return -1;
        }
        List<Integer> wrong = new ArrayList<>();
        for (int i = 0; i < 32; i++) {
            if (told(i) != null && told(i).wrong() && wrong.size() < 12) {
                wrong.add(i);
            }
        }
        int m = wrong.size();
        int[] takes = new int[m];
        BigInteger[] saves = new BigInteger[m];
        BigInteger below = BigInteger.ONE;
        for (int k = 0; k < m; k++) {
            int i = wrong.get(k);
            takes[k] = value('b', i, told(i).way, 0);
            BigInteger[] f = seen(i);
            saves[k] = f[0].multiply(big(turning(i)));
            below = f[1];
        }
        int best = 0;
        int bestTakes = 0;
        BigInteger most = BigInteger.ZERO;
        for (int set = 0; set < 1 << m; set++) {
            int t = 0;
            BigInteger s = BigInteger.ZERO;
            for (int k = 0; k < m; k++) {
                if ((set >> k & 1) != 0) {
                    t += takes[k];
                    s = s.add(saves[k]);
                }
            }
            if (t <= seconds && s.compareTo(most) > 0) {
                best = set;
                bestTakes = t;
                most = s;
            }
        }
        return what == 0 ? best : what == 1 ? bestTakes : part(most, below, what - 2);
    }

    // ---- orders ----

    int clue(int i, int j) {
        if (told(i) == null || told(j) == null || i == j || now.clues.size() == 24) {
            return -1;
        }
        now.clues.add(new int[] {i, j});
        return now.clues.size();
    }

    private List<List<Integer>> orders(List<Integer> spilt) {
        List<List<Integer>> found = new ArrayList<>();
        Collections.sort(spilt);
        permute(spilt, new ArrayList<>(), found);
        return found;
    }

    private void permute(List<Integer> spilt, List<Integer> row, List<List<Integer>> found) {
        if (row.size() == spilt.size()) {
            for (int[] c : now.clues) {
                if (row.contains(c[0]) && row.contains(c[1]) && row.indexOf(c[0]) > row.indexOf(c[1])) {
                    return;
                }
            }
            found.add(new ArrayList<>(row));
            return;
        }
        for (int i : spilt) {
            if (!row.contains(i)) {
                row.add(i);
                permute(spilt, row, found);
                row.remove(row.size() - 1);
            }
        }
    }

    private boolean unfit(List<Integer> t) {
        for (int i : t) {
            if (told(i) == null || Collections.frequency(t, i) > 1) {
                return true;
            }
        }
        return false;
    }

    long spilt(int n, int what) {
        if (!in(n, 2, 12) || tape.size() < n) {
            return -1;
        }
        List<Integer> t = take(n);
        if (unfit(t)) {
            return -2;
        }
        List<List<Integer>> all = orders(t);
        if (what == -1) {
            return all.size();
        }
        if (all.isEmpty()) {
            return -2;
        }
        return in(what, 0, n - 1) ? all.get(0).get(what) : -3;
    }

    private static long ahead(List<List<Integer>> all, int i, int j) {
        return all.stream().filter(r -> r.indexOf(i) < r.indexOf(j)).count();
    }

    long says(int n, int i, int j, int what) {
        if (!in(n, 2, 12) || tape.size() < n || !in(what, 0, 3)) {
            return -1;
        }
        List<Integer> t = take(n);
        if (unfit(t)) {
            return -2;
        }
        List<List<Integer>> all = orders(t);
        if (what == 0) {
            return t.contains(i) && t.contains(j) && i != j ? ahead(all, i, j) : -3;
        }
        long[] best = {-2, -2, -2, 0};
        for (int a : t) {
            for (int b : t) {
                long lesser = Math.min(ahead(all, a, b), ahead(all, b, a));
                if (a < b && lesser > best[3]) {
                    best = new long[] {-2, a, b, lesser};
                }
            }
        }
        return best[3] == 0 ? -2 : best[what];
    }

    // ---- the rest ----

    int shadow(int looks, int falls, int what) {
        if (!in(looks, 0, 3) || !in(falls, 0, 3) || !in(what, 0, 2)) {
            return -1;
        }
        // East and north of a step to the north, east, south, west.
        int[][] steps = {{0, 1}, {1, 0}, {0, -1}, {-1, 0}};
        int[] ahead = steps[looks];
        int[] right = {ahead[1], -ahead[0]};
        int bits = 0;
        for (int mirrored = 0; mirrored < 2; mirrored++) {
            int side = (falls == 0 ? -1 : falls == 1 ? 1 : 0) * (mirrored == 0 ? 1 : -1);
            int on = falls == 2 ? -1 : falls == 3 ? 1 : 0;
            int sunEast = -(side * right[0] + on * ahead[0]);
            int sunNorth = -(side * right[1] + on * ahead[1]);
            int when = sunEast == 1 ? 1 : sunEast == -1 ? 4 : sunNorth == -1 ? 2 : 0;
            bits |= what == 2 || what == mirrored ? when : 0;
        }
        return bits;
    }

    int link(int i, int j) {
        if (told(i) == null || told(j) == null || i == j || now.links.size() == 12) {
            return -1;
        }
        now.links.add(new int[] {i, j});
        return now.links.size();
    }

    int leftOut(int seconds, int what) {
        if (!in(seconds, 0, 9999) || !in(what, 0, 2)) {
            return -1;
        }
        TreeSet<Integer> told = new TreeSet<>();
        for (int i : tray) {
            if (told(i) != null) {
                told.add(i);
            }
        }
        List<Integer> these = new ArrayList<>(told).subList(0, Math.min(12, told.size()));
        int[] best = {0, 0, 0};
        for (int set = 0; set < 1 << these.size(); set++) {
            Set<Integer> in = new HashSet<>();
            int takes = 0;
            int worth = 0;
            for (int k = 0; k < these.size(); k++) {
                if ((set >> k & 1) != 0) {
                    int i = these.get(k);
                    in.add(i);
                    takes += value('s', i, told(i).way, 0);
                    worth += told(i).worth;
                }
            }
            boolean fits = takes <= seconds;
            for (int[] l : now.links) {
                fits &= !in.contains(l[1]) || in.contains(l[0]);
            }
            if (fits && worth > best[0]) {
                best = new int[] {worth, set, takes};
            }
        }
        return best[what];
    }

    long lamp(int x, int n, int what) {
        if (!in(x, 0, 10) || !in(n, 1, 15) || !in(what, 0, 1)) {
            return -1;
        }
        return part(big(10 - x).pow(n), big(10).pow(n), what);
    }

    long hand(int what) {
        if (!in(what, 0, 1)) {
            return -1;
        }
        BigInteger above = BigInteger.ZERO;
        BigInteger below = BigInteger.ONE;
        int had = 0;
        for (int i = 0; i < 32; i++) {
            if (told(i) == null) {
                continue;
            }
            long all = 0;
            long wrong = 0;
            for (int w = 0; w < 8; w++) {
                all += value('w', i, w, 0);
                wrong += told(i).right(w) ? 0 : value('w', i, w, 0);
            }
            if (all > 0 && had++ < 6) {
                above = above.multiply(big(all)).add(below.multiply(big(wrong)));
                below = below.multiply(big(all));
            }
        }
        return part(above, below, what);
    }

    int putIn() {
        for (int i = 0; i < 32; i++) {
            if (told(i) == null) {
                continue;
            }
            List<Integer> parts = new ArrayList<>();
            for (int w = 0; w < 8; w++) {
                parts.addAll(Collections.nCopies(value('w', i, w, 0), w));
            }
            now.draw();
            if (!parts.isEmpty()) {
                told(i).way = parts.get(now.x % parts.size());
            }
        }
        return now.wrongs();
    }

    boolean seed(int x) {
        if (!in(x, 0, 65535)) {
            return false;
        }
        now.x = x;
        return true;
    }

    int keep() {
        kept = now.copy();
        return count(0);
    }

    boolean undo() {
        if (kept == null) {
            return false;
        }
        now = kept.copy();
        return true;
    }

    int check(int i, int n) {
        if (told(i) == null || !in(n, 0, 25) || tape.size() < n) {
            return -2;
        }
        List<Integer> t = take(n);
        for (int k = 0; k < n; k++) {
            if (shown(i, k % 5, k / 5) != t.get(k)) {
                return k;
            }
        }
        return -1;
    }

    int count(int what) {
        int slides = 0;
        int sure = 0;
        int lookers = 0;
        for (Picture p : now.slides) {
            slides += p == null ? 0 : 1;
            sure += p != null && p.corner >= 0 ? 1 : 0;
        }
        for (int l = 0; l < 8; l++) {
            lookers |= now.lookers[l] == null ? 0 : 1 << l;
            if (now.lookers[l] != null && what == 10 + l) {
                return now.lookers[l][0];
            }
            if (now.lookers[l] != null && what == 20 + l) {
                return now.lookers[l][1];
            }
        }
        if (what == 30) {
            return now.wrongs();
        }
        int[] counts = {slides, lookers, now.lamps, tray.size(), law.size(), tape.size(), now.x, now.clues.size(),
            sure, now.links.size()};
        return in(what, 0, 9) ? counts[what] : -1;
    }
}
