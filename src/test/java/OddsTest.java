/** Promises 17 to 22, 29, 30 and 35: odds, turns, dots, the light box, lamps, the hand, checks. */
public final class OddsTest {
    private static final Due DUE = new Due();

    public static void main(String[] args) {
        odds();
        toTurn();
        leave();
        dots();
        lightBox();
        lamp();
        hand();
        check();
        DUE.end();
    }

    private static void oddsAre(SlideNight n, int way, int above, int below, int... shows) {
        for (int what = 0; what < 2; what++) {
            if (shows.length > 0) {
                Due.feed(n, shows);
            }
            int got = n.odds(0, way, shows.length / 3, what);
            DUE.is("odds of " + way + " by " + shows.length / 3 + ", " + what, got, what == 0 ? above : below);
            DUE.is("the tape is empty", n.count(5), 0);
        }
    }

    /** Promise 17. */
    private static void odds() {
        SlideNight n = Due.withSlides(1);
        oddsAre(n, 0, -2, -2);
        Due.law(n, "w0(q=3);w10(q=0&m=0);w4(1=1)");
        // WAYS 0 to 7: 10 4 4 0 4 4 4 0, together 30.
        oddsAre(n, 0, 1, 3);
        oddsAre(n, 1, 2, 15);
        oddsAre(n, 3, 0, 1);
        oddsAre(n, 7, 0, 1);
        // An a at the top right by WAYS 1 and 4; a b below it by 1.
        oddsAre(n, 1, 1, 2, 4, 0, 'a');
        oddsAre(n, 4, 1, 2, 4, 0, 'a');
        oddsAre(n, 0, 0, 1, 4, 0, 'a');
        oddsAre(n, 1, 1, 1, 4, 0, 'a', 4, 1, 'b');
        oddsAre(n, 4, 0, 1, 4, 0, 'a', 4, 1, 'b');
        oddsAre(n, 0, 1, 1, 0, 0, 'a', 2, 2, '.', 0, 0, 'a');
        oddsAre(n, 0, 5, 7, 4, 4, '.', 4, 0, '.');
        // By WAY 3 alone, which the hand does not use; by no WAY; beyond the picture.
        oddsAre(n, 3, -2, -2, 0, 4, 'a', 0, 3, 'b');
        oddsAre(n, 0, -2, -2, 2, 2, 'a');
        oddsAre(n, 0, -2, -2, 5, 0, '.');
        oddsAre(n, 0, -2, -2, 0, 5, '.');
        oddsAre(n, 0, -2, -2, 255, 255, 255);
        oddsAre(n, 0, 1, 3, 2, 2, '.', 2, 2, '.', 2, 2, '.', 2, 2, '.', 2, 2, '.', 2, 2, '.', 2, 2, '.', 2, 2, '.');
        Due.feed(n, 2, 2, '.');
        for (int[] no : new int[][] {{1, 0, 0, 0}, {-1, 0, 0, 0}, {0, -1, 0, 0}, {0, 8, 0, 0}, {0, 0, -1, 0},
            {0, 0, 9, 0}, {0, 0, 7, 0}, {0, 0, 0, -1}, {0, 0, 0, 2}}) {
            DUE.is("odds: no such ones", n.odds(no[0], no[1], no[2], no[3]), -1);
            DUE.is("the tape stays", n.count(5), 20);
        }
        Due.feed(n, 2, 2, '.');
        DUE.is("nine are too many", n.odds(0, 0, 9, 0), -1);
        DUE.is("by none", n.odds(0, 0, 0, 0), 1);
        DUE.is("the tape is empty", n.count(5), 0);
    }

    private static void rowIs(SlideNight n, String name, long above, long below, int... row) {
        DUE.is(name + " above", n.toTurn(0, 20), above);
        DUE.is(name + " below", n.toTurn(0, 21), below);
        for (int k = 0; k < 7; k++) {
            DUE.is(name + " at " + k, n.toTurn(0, k), row[k]);
        }
    }

    /** Promise 18. */
    private static void toTurn() {
        SlideNight n = Due.withSlides(1);
        DUE.is("no w", n.toTurn(0, 0), -2);
        DUE.is("no w", n.toTurn(0, 20), -2);
        for (int what : new int[] {-1, 7, 19, 22, Integer.MIN_VALUE}) {
            DUE.is("toTurn(0, " + what + ")", n.toTurn(0, what), -1);
        }
        DUE.is("toTurn(1, 0)", n.toTurn(1, 0), -1);
        DUE.is("toTurn(-1, 20)", n.toTurn(-1, 20), -1);
        Due.law(n, "w1(1=1);t1(1=1)");
        rowIs(n, "all alike", 7, 2, 1, 1, 1, 4, 1, 1, 1);
        Due.law(n, "w1(1=1)");
        rowIs(n, "no seconds", 0, 1, 1, 1, 1, 4, 1, 1, 1);
        Due.law(n, "w9(q=0&m=0);t9(1=1)");
        rowIs(n, "surely right at once", 0, 1, 1, 1, 1, 4, 1, 1, 1);
        Due.law(n, "w3(q=1&m=0);w1(q=2&m=0);t5(1=1)");
        // From 1 by turn 3, from 2 by turn 2: 3 then 3 sees to both; what comes behind is the least.
        rowIs(n, "two", 25, 4, 3, 3, 3, 4, 1, 1, 1);
        Due.law(n, "w3(q=1&m=0);w1(q=2&m=0);t50(q=3);t5(1=1)");
        // A turn of three quarters is dear: two quarters, then one.
        rowIs(n, "a dear turn", 35, 4, 2, 1, 2, 4, 1, 1, 1);
        Due.slide(n, 0, Due.PLAIN, 0, 0, 0);
        rowIs(n, "always right", 0, 1, 1, 1, 1, 4, 1, 1, 1);
    }

    private static void leaveIs(SlideNight n, String name, int i, long above, long below) {
        DUE.is(name + " above", n.leave(i, 0), above);
        DUE.is(name + " below", n.leave(i, 1), below);
    }

    /** Promise 19. */
    private static void leave() {
        SlideNight n = Due.withSlides(2);
        DUE.is("leave(0, -1)", n.leave(0, -1), -1);
        DUE.is("leave(0, 2)", n.leave(0, 2), -1);
        DUE.is("leave(5, 2)", n.leave(5, 2), -1);
        DUE.is("leave(5, 0)", n.leave(5, 0), -1000000000);
        DUE.is("leave(-1, 1)", n.leave(-1, 1), -1000000000);
        Due.law(n, "n5(e=0);n3(l=7);n1(1=1);p20+i(1=1);tq+1(1=1)");
        leaveIs(n, "right", 0, 0, 1);
        n.put(0, 1);
        n.put(1, 2);
        leaveIs(n, "without LOOKERS", 0, -(2 + 3 + 4), 1);
        n.looker(1, 0, 0);
        leaveIs(n, "one, without PATIENCE", 0, 10 - 9, 1);
        leaveIs(n, "one", 1, 21 - 10, 2);
        n.looker(7, 1, 5);
        leaveIs(n, "two", 0, 4, 1);
        leaveIs(n, "two", 1, 21 * 13 - 100, 20);
        for (int l = 0; l < 8; l++) {
            n.looker(l, 1, 5);
        }
        // Nine tenths of seven times, and seven tenths.
        leaveIs(n, "eight", 0, 20 * (100000000L - 4782969L * 7) / 20 - 9 * 5000000L, 5000000);
    }

    /** Promises 20 and 21. */
    private static void dots() {
        SlideNight n = Due.withSlides(5);
        for (int[] no : new int[][] {{-1, 0}, {5, 0}, {32, 0}, {0, -1}, {0, 4}}) {
            DUE.is("sure: no such ones", n.sure(no[0], no[1]), false);
        }
        for (int[] no : new int[][] {{-1, 0}, {4, 0}, {0, -2}, {0, 4}, {4, -1}}) {
            DUE.is("dots: no such ones", n.dots(no[0], no[1]), -1);
        }
        DUE.is("all corners", n.dots(0, -1), 15);
        DUE.is("all ways", n.dots(0, 2), 255);
        int[] shownIn = {2, 3, 0, 1, 3, 0, 1, 2};
        for (int way = 0; way < 8; way++) {
            n.put(0, way);
            DUE.is("sure", n.sure(0, shownIn[way]), true);
            DUE.is("bottom right, by " + way, n.dots(0, -1), 4);
            DUE.is("one SURE SLIDE", n.count(8), 1);
        }
        for (int corner = 0; corner < 4; corner++) {
            int fit = 0;
            for (int way = 0; way < 8; way++) {
                fit |= shownIn[way] == corner ? 1 << way : 0;
            }
            DUE.is("ways", n.dots(0, corner), fit);
        }
        DUE.is("another MAKER", n.dots(1, -1), 15);
        n.sure(4, 1);
        DUE.is("another MAKER's own", n.dots(1, -1), 2);
        DUE.is("as before", n.dots(0, -1), 4);
        n.sure(3, 2);
        DUE.is("two that fit", n.dots(0, -1), 4);
        n.sure(3, 1);
        DUE.is("none fits", n.dots(0, -1), 0);
        DUE.is("none fits", n.dots(0, 1), 0);
        n.gone(3);
        DUE.is("without it", n.dots(0, -1), 4);
        DUE.is("SURE SLIDES", n.count(8), 2);
    }

    private static void boxIs(SlideNight n, int seconds, long... due) {
        for (int what = 0; what < 4; what++) {
            DUE.is("lightBox(" + seconds + ", " + what + ")", n.lightBox(seconds, what), due[what]);
        }
    }

    /** Promise 22. */
    private static void lightBox() {
        SlideNight n = Due.withSlides(6);
        for (int[] no : new int[][] {{-1, 0}, {10000, 0}, {0, -1}, {0, 4}}) {
            DUE.is("lightBox: no such ones", n.lightBox(no[0], no[1]), -1);
        }
        boxIs(n, 9999, 0, 0, 0, 1);
        n.looker(0, 0, 0);
        Due.law(n, "n5(1=1);t1(1=1);b10+i(1=1)");
        // WRONG are 1, 3 and 5: by 3, 4 and 7 turns.
        n.put(1, 1);
        n.put(3, 4);
        n.put(5, 7);
        boxIs(n, 10, 0, 0, 0, 1);
        boxIs(n, 11, 1, 11, 3, 2);
        boxIs(n, 13, 2, 13, 2, 1);
        boxIs(n, 15, 4, 15, 7, 2);
        // 1 and 3 save as much as 5 alone: the least bits.
        boxIs(n, 24, 3, 24, 7, 2);
        boxIs(n, 26, 5, 26, 5, 1);
        boxIs(n, 28, 6, 28, 11, 2);
        boxIs(n, 39, 7, 39, 7, 1);
        boxIs(n, 9999, 7, 39, 7, 1);
        // What saves nothing is left where it is.
        Due.law(n, "n5(i=3);t1(1=1)");
        boxIs(n, 0, 2, 0, 2, 1);
        SlideNight many = Due.withSlides(16);
        for (int i = 0; i < 16; i++) {
            many.put(i, 2);
        }
        many.put(0, 0);
        many.looker(0, 0, 0);
        Due.law(many, "n10(1=1);t50(i=14);ti(q=1);b1(1=1)");
        boxIs(many, 9999, 4095, 12, 78, 1);
        boxIs(many, 2, 3072, 2, 23, 1);
    }

    /** Promise 29. */
    private static void lamp() {
        SlideNight n = new SlideNight();
        for (int[] no : new int[][] {{-1, 1, 0}, {11, 1, 0}, {11, 1, 1}, {0, 0, 0}, {0, 16, 0}, {0, 1, -1}, {0, 1, 2}}) {
            DUE.is("lamp: no such ones", n.lamp(no[0], no[1], no[2]), -1);
        }
        long[][] due = {{0, 15, 1, 1}, {10, 1, 0, 1}, {10, 15, 0, 1}, {5, 3, 1, 8}, {1, 2, 81, 100}, {4, 2, 9, 25},
            {1, 15, 205891132094649L, 1000000000000000L}, {5, 15, 1, 32768}, {9, 15, 1, 1000000000000000L}};
        for (long[] d : due) {
            DUE.is("lamp above", n.lamp((int) d[0], (int) d[1], 0), d[2]);
            DUE.is("lamp below", n.lamp((int) d[0], (int) d[1], 1), d[3]);
        }
    }

    /** Promise 30. */
    private static void hand() {
        SlideNight n = new SlideNight();
        DUE.is("hand(-1)", n.hand(-1), -1);
        DUE.is("hand(2)", n.hand(2), -1);
        DUE.is("without SLIDES", n.hand(0), 0);
        DUE.is("without SLIDES", n.hand(1), 1);
        Due.slide(n, 0, Due.UNLIKE, 0, 0, 0);
        Due.slide(n, 4, Due.HALF, 0, 0, 0);
        Due.slide(n, 9, Due.PLAIN, 0, 0, 0);
        DUE.is("without w", n.hand(0), 0);
        DUE.is("without w", n.hand(1), 1);
        Due.law(n, "w7(i=4);w5(q=0&m=0);w1(1=1)");
        // 7/12 of the first, 6/8 of the second, none of the third.
        DUE.is("above", n.hand(0), 4);
        DUE.is("below", n.hand(1), 3);
        SlideNight many = Due.withSlides(12);
        Due.law(many, "w0(i<3);w97-i(q=0&m=0);w98(m=0);w99(1=1)");
        // 690 of 690 + 97 - i, for i from 3 to 8.
        java.math.BigInteger above = java.math.BigInteger.ZERO;
        java.math.BigInteger below = java.math.BigInteger.ONE;
        for (int i = 3; i < 9; i++) {
            java.math.BigInteger all = java.math.BigInteger.valueOf(690 + 97 - i);
            above = above.multiply(all).add(below.multiply(java.math.BigInteger.valueOf(690)));
            below = below.multiply(all);
        }
        java.math.BigInteger common = above.gcd(below);
        DUE.is("six large ones above", many.hand(0), above.divide(common).longValueExact());
        DUE.is("six large ones below", many.hand(1), below.divide(common).longValueExact());
    }

    /** Promise 35. */
    private static void check() {
        SlideNight n = Due.withSlides(1);
        n.put(0, 1);
        String shown = "....a....b...............";
        Due.feed(n, shown);
        for (int[] no : new int[][] {{1, 5}, {-1, 5}, {32, 5}, {0, -1}, {0, 26}}) {
            DUE.is("check: no such ones", n.check(no[0], no[1]), -2);
        }
        DUE.is("the tape stays", n.count(5), 40);
        DUE.is("right", n.check(0, 25), -1);
        DUE.is("the tape is empty", n.count(5), 0);
        DUE.is("not so many", n.check(0, 1), -2);
        DUE.is("none", n.check(0, 0), -1);
        Due.feed(n, "aaaa");
        DUE.is("not so many", n.check(0, 21), -2);
        DUE.is("the first of all", n.check(0, 20), 0);
        for (int k = 0; k < 25; k++) {
            char[] signs = shown.toCharArray();
            signs[k] = 'z';
            Due.feed(n, new String(signs));
            DUE.is("the first that is not so", n.check(0, 25), k);
            Due.feed(n, new String(signs));
            DUE.is("before it", n.check(0, k), -1);
        }
        Due.feed(n, "....A");
        DUE.is("another sign", n.check(0, 5), 4);
        Due.feed(n, "b");
        DUE.is("none is asked", n.check(0, 0), -1);
        DUE.is("the tape is empty", n.count(5), 0);
    }
}
