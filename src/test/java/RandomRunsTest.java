import java.nio.charset.StandardCharsets;
import java.util.ArrayList;
import java.util.List;
import java.util.Random;

/** Runs of drawn calls, each answered by SlideNight and by NaiveNight; the draws are the same each time. */
public final class RandomRunsTest {
    private static final int RUNS = 250;
    private static final int CALLS = 512;
    private static final Due DUE = new Due();

    private final Random random;
    private final SlideNight night = new SlideNight();
    private final NaiveNight naive = new NaiveNight();
    private final List<String> told = new ArrayList<>();
    private int calls;

    private RandomRunsTest(long seed) {
        random = new Random(seed);
    }

    public static void main(String[] args) {
        for (int run = 0; run < RUNS && DUE.wrongs() == 0; run++) {
            RandomRunsTest test = new RandomRunsTest(run);
            while (test.calls < CALLS && DUE.wrongs() == 0) {
                test.step();
            }
            if (DUE.wrongs() != 0) {
                System.out.println("run " + run + ": " + String.join(" ", test.told));
            }
        }
        DUE.end();
    }

    private int upTo(int most) {
        return random.nextInt(most + 1);
    }

    /** Mostly a number that fits, now and then one that does not. */
    private int about(int least, int most) {
        switch (random.nextInt(40)) {
            case 0:
                return least - 1;
            case 1:
                return most + 1;
            case 2:
                return random.nextInt();
            case 3:
                return random.nextBoolean() ? Integer.MIN_VALUE : Integer.MAX_VALUE;
            default:
                return least + random.nextInt(most - least + 1);
        }
    }

    private int aSlide() {
        return random.nextInt(8) == 0 ? about(0, 31) : upTo(9);
    }

    private void same(String call, long got, long want) {
        calls++;
        told.add(call);
        DUE.is(call, got, want);
    }

    private void same(String call, boolean got, boolean want) {
        same(call, got ? 1 : 0, want ? 1 : 0);
    }

    private void feed(byte[] bytes) {
        int[] v = Due.ints(bytes);
        for (int k = 0; k < v.length; k += 5) {
            int got = night.feed(v[k], v[k + 1], v[k + 2], v[k + 3], v[k + 4]);
            same("feed", got, naive.feed(v[k], v[k + 1], v[k + 2], v[k + 3], v[k + 4]));
        }
    }

    private String feed(String text) {
        feed(text.getBytes(StandardCharsets.ISO_8859_1));
        return "'" + text + "'";
    }

    private void clearTape() {
        if (naive.count(5) > 0) {
            same("law", night.law(1), naive.law(1));
        }
    }

    // ---- drawn texts ----

    private String one(String of) {
        return of.substring(0, of.length()).charAt(random.nextInt(of.length())) + "";
    }

    private String factor(int depth) {
        int r = random.nextInt(depth > 4 ? 8 : 10);
        if (r < 3) {
            return "" + random.nextInt(r == 0 ? 100000 : 6);
        }
        return r < 8 ? one("ikayqmovlez") : "[" + sum(depth + 1) + "]";
    }

    private String sum(int depth) {
        StringBuilder s = new StringBuilder(factor(depth));
        while (random.nextInt(3) == 0) {
            s.append(one("+-*/%")).append(factor(depth));
        }
        return s.toString();
    }

    private String condition(int depth) {
        StringBuilder s = new StringBuilder(piece(depth));
        while (random.nextInt(3) == 0) {
            s.append(one("&|")).append(piece(depth));
        }
        return s.toString();
    }

    private String piece(int depth) {
        int r = random.nextInt(depth > 4 ? 4 : 7);
        if (r < 4) {
            return r == 0 ? one("0123") + "=" + one("0qmk") : sum(depth) + one("<>=") + sum(depth);
        }
        return r < 6 ? "!" + piece(depth + 1) : "(" + condition(depth + 1) + ")";
    }

    private String lawText() {
        StringBuilder s = new StringBuilder();
        int clauses = random.nextInt(6) == 0 ? 17 : 1 + random.nextInt(9);
        for (int k = 0; k < clauses; k++) {
            boolean isPlain = clauses == 17 || random.nextInt(2) == 0;
            String clause = one("wnstjxpbwnst");
            clause += isPlain ? random.nextInt(12) + "(" + one("qmkio") + one("<>=") + upTo(3) + ")"
                : sum(0) + "(" + condition(1) + ")";
            if (s.length() + clause.length() < 236) {
                s.append(k == 0 ? "" : ";").append(clause);
            }
        }
        return s.toString();
    }

    private String items(int depth) {
        StringBuilder s = new StringBuilder();
        int many = 1 + random.nextInt(4);
        for (int k = 0; k < many; k++) {
            s.append(k == 0 ? "" : ",");
            int r = random.nextInt(8);
            if (r == 0 && depth < 5) {
                s.append('(').append(items(depth + 1)).append(')').append(2 + random.nextInt(3));
            } else if (r < 3) {
                s.append(random.nextInt(12)).append('-').append(random.nextInt(r == 1 ? 33 : 12));
            } else {
                s.append(random.nextInt(r == 3 ? 34 : 10));
            }
        }
        return s.toString();
    }

    private String spoilt(String text) {
        if (text.isEmpty() || random.nextInt(3) != 0) {
            return text;
        }
        int place = random.nextInt(text.length());
        String sign = random.nextInt(20) == 0 ? (char) random.nextInt(256) + "" : one("()[]!&|;,-0123456789+*/%<>=wnqmb ");
        switch (random.nextInt(3)) {
            case 0:
                return text.substring(0, place);
            case 1:
                return text.substring(0, place) + sign + text.substring(place);
            default:
                return text.substring(0, place) + sign + text.substring(place + 1);
        }
    }

    private String picture() {
        StringBuilder s = new StringBuilder(Due.PLAIN);
        switch (random.nextInt(6)) {
            case 0:
                return Due.CORNER;
            case 1:
                return Due.HALF;
            case 2:
                return Due.UPRIGHT;
            case 3:
                return Due.PLAIN;
            default:
        }
        for (int k = 0; k < 25; k++) {
            if (random.nextInt(4) == 0) {
                s.setCharAt(k, (char) ('a' + random.nextInt(3)));
            }
        }
        if (random.nextInt(15) == 0) {
            s.setCharAt(random.nextInt(25), one("A-`{/").charAt(0));
        }
        return s.toString();
    }

    // ---- drawn calls ----

    private void step() {
        switch (random.nextInt(12)) {
            case 0:
            case 1:
                tell();
                break;
            case 2:
                changeTexts();
                break;
            case 3:
                changeAll();
                break;
            case 4:
            case 5:
                look();
                break;
            case 6:
            case 7:
                reckon();
                break;
            case 8:
                orders();
                break;
            case 9:
                sets();
                break;
            case 10:
                withTape();
                break;
            default:
                int what = about(0, 30);
                same("count(" + what + ")", night.count(what), naive.count(what));
        }
    }

    private void tell() {
        int i = aSlide();
        int b = about(0, 7);
        switch (random.nextInt(6)) {
            case 0:
            case 1:
                int maker = about(0, 3);
                int worth = about(0, 99);
                String p = feed(picture());
                same("slide " + p, night.slide(i, b / 2, maker, worth), naive.slide(i, b / 2, maker, worth));
                break;
            case 2:
                same("put(" + i + "," + b + ")", night.put(i, b), naive.put(i, b));
                break;
            case 3:
                int d = about(0, 99);
                same("day(" + i + "," + d + ")", night.day(i, d), naive.day(i, d));
                break;
            case 4:
                int patience = random.nextInt(3) == 0 ? about(0, 9999) : upTo(60);
                int eyes = about(0, 9);
                same("looker(" + b + "," + eyes + "," + patience + ")", night.looker(b, eyes, patience),
                    naive.looker(b, eyes, patience));
                break;
            default:
                if (random.nextInt(4) == 0) {
                    same("gone(" + i + ")", night.gone(i), naive.gone(i));
                }
        }
    }

    private void changeTexts() {
        clearTape();
        if (random.nextInt(3) == 0) {
            String text = spoilt(items(0));
            String quoted = feed(text);
            same("tray " + quoted, night.tray(text.length()), naive.tray(text.length()));
        } else {
            String text = spoilt(lawText());
            String quoted = feed(text);
            same("law " + quoted, night.law(text.length()), naive.law(text.length()));
        }
    }

    private void changeAll() {
        int n = about(0, 9);
        int x = about(0, 65535);
        switch (random.nextInt(6)) {
            case 0:
                same("lamps(" + n + ")", night.lamps(n), naive.lamps(n));
                break;
            case 1:
                same("seed(" + x + ")", night.seed(x), naive.seed(x));
                break;
            case 2:
                same("keep()", night.keep(), naive.keep());
                break;
            case 3:
                same("undo()", night.undo(), naive.undo());
                break;
            case 4:
                same("putIn()", night.putIn(), naive.putIn());
                break;
            default:
                same("evening()", night.evening(), naive.evening());
        }
    }

    private void look() {
        int i = aSlide();
        int a = about(0, 7);
        int b = about(0, 7);
        int c = about(0, 4);
        int d = about(0, 4);
        String of = "(" + i + "," + a + "," + b + "," + c + "," + d + ")";
        switch (random.nextInt(5)) {
            case 0:
                same("ways" + of, night.ways(a, b, c), naive.ways(a, b, c));
                break;
            case 1:
                same("shown" + of, night.shown(i, c, d), naive.shown(i, c, d));
                break;
            case 2:
                same("slideIs" + of, night.slideIs(i, a), naive.slideIs(i, a));
                break;
            case 3:
                same("inTray" + of, night.inTray(a + b), naive.inTray(a + b));
                break;
            default:
                same("shadow" + of, night.shadow(a / 2, b / 2, c), naive.shadow(a / 2, b / 2, c));
        }
    }

    private void reckon() {
        int i = aSlide();
        int what = about(0, 7);
        int one = about(0, 1);
        String of = "(" + i + "," + what + "," + one + ")";
        switch (random.nextInt(9)) {
            case 0:
            case 1:
            case 2:
                same("tried" + of, night.tried(what), naive.tried(what));
                break;
            case 3:
                int place = what == 7 ? 20 + upTo(1) : what;
                same("toTurn" + of, night.toTurn(i, place), naive.toTurn(i, place));
                break;
            case 4:
                same("leave" + of, night.leave(i, one), naive.leave(i, one));
                break;
            case 5:
                same("sure" + of, night.sure(i, what / 2), naive.sure(i, what / 2));
                break;
            case 6:
                same("dots" + of, night.dots(i / 3, what - 2), naive.dots(i / 3, what - 2));
                break;
            case 7:
                int n = about(1, 15);
                same("lamp" + of, night.lamp(what, n, one), naive.lamp(what, n, one));
                break;
            default:
                same("hand" + of, night.hand(one), naive.hand(one));
        }
    }

    private void orders() {
        int i = aSlide();
        int j = aSlide();
        if (random.nextInt(3) == 0) {
            same("clue(" + i + "," + j + ")", night.clue(i, j), naive.clue(i, j));
            return;
        }
        clearTape();
        int n = 2 + random.nextInt(4);
        byte[] row = new byte[n];
        int from = random.nextInt(6);
        for (int k = 0; k < n; k++) {
            row[k] = (byte) (from + k);
        }
        for (int k = n - 1; k > 0; k--) {
            int other = random.nextInt(k + 1);
            byte had = row[k];
            row[k] = row[other];
            row[other] = had;
        }
        if (random.nextInt(9) == 0) {
            row[0] = (byte) random.nextInt(256);
        }
        feed(row);
        int what = about(-1, 5);
        if (random.nextBoolean()) {
            same("spilt(" + n + "," + what + ")", night.spilt(n, what), naive.spilt(n, what));
        } else {
            what = about(0, 3);
            same("says(" + n + "," + i + "," + j + "," + what + ")", night.says(n, i, j, what),
                naive.says(n, i, j, what));
        }
    }

    private void sets() {
        int i = aSlide();
        int j = aSlide();
        int seconds = random.nextInt(3) == 0 ? about(0, 9999) : upTo(50);
        switch (random.nextInt(3)) {
            case 0:
                same("link(" + i + "," + j + ")", night.link(i, j), naive.link(i, j));
                break;
            case 1:
                int what = about(0, 2);
                same("leftOut(" + seconds + "," + what + ")", night.leftOut(seconds, what),
                    naive.leftOut(seconds, what));
                break;
            default:
                int part = about(0, 3);
                same("lightBox(" + seconds + "," + part + ")", night.lightBox(seconds, part),
                    naive.lightBox(seconds, part));
        }
    }

    private void withTape() {
        int i = aSlide();
        int way = about(0, 7);
        int one = about(0, 1);
        if (random.nextBoolean()) {
            clearTape();
            int n = random.nextInt(3);
            byte[] shows = new byte[3 * n];
            for (int k = 0; k < n; k++) {
                shows[3 * k] = (byte) random.nextInt(random.nextInt(9) == 0 ? 256 : 5);
                shows[3 * k + 1] = (byte) random.nextInt(5);
                shows[3 * k + 2] = (byte) one(".....abc").charAt(0);
            }
            feed(shows);
            n = random.nextInt(9) == 0 ? about(0, 8) : n;
            same("odds(" + i + "," + way + "," + n + "," + one + ")", night.odds(i, way, n, one),
                naive.odds(i, way, n, one));
        } else {
            int n = about(0, 25);
            byte[] signs = new byte[25];
            for (int k = 0; k < 25; k++) {
                signs[k] = (byte) Math.max(0, naive.shown(i, k % 5, k / 5));
            }
            if (random.nextBoolean()) {
                signs[random.nextInt(25)] = 'b';
            }
            clearTape();
            feed(signs);
            same("check(" + i + "," + n + ")", night.check(i, n), naive.check(i, n));
        }
    }
}
