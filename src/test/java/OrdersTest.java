/** Promises 23 to 28: clues, spilt ones, the shadow, links and what is left out. */
public final class OrdersTest {
    private static final Due DUE = new Due();

    public static void main(String[] args) {
        clues();
        spilt();
        says();
        twelve();
        shadow();
        links();
        leftOut();
        DUE.end();
    }

    /** Promise 23. */
    private static void clues() {
        SlideNight n = Due.withSlides(8);
        for (int[] no : new int[][] {{0, 0}, {0, 8}, {8, 0}, {-1, 0}, {0, -1}, {32, 0}, {0, 32}}) {
            DUE.is("clue: no such ones", n.clue(no[0], no[1]), -1);
        }
        DUE.is("none yet", n.count(7), 0);
        int told = 0;
        for (int i = 0; i < 8 && told < 24; i++) {
            for (int j = i + 1; j < 8 && told < 24; j++) {
                told++;
                DUE.is("clue", n.clue(i, j), told);
            }
        }
        DUE.is("24 are there", n.clue(6, 7), -1);
        DUE.is("24 are there", n.count(7), 24);
    }

    private static long spilt(SlideNight n, int what, int... slides) {
        Due.feed(n, slides);
        return n.spilt(slides.length, what);
    }

    private static void firstIs(SlideNight n, int[] slides, int... due) {
        for (int k = 0; k < due.length; k++) {
            DUE.is("the first at " + k, spilt(n, k, slides), due[k]);
        }
        DUE.is("no place behind", spilt(n, due.length, slides), -3);
        DUE.is("no place ahead", spilt(n, -2, slides), -3);
    }

    /** Promise 24. */
    private static void spilt() {
        SlideNight n = Due.withSlides(6);
        DUE.is("it has not so many", n.spilt(2, -1), -1);
        Due.feed(n, 0, 1, 2);
        for (int no : new int[] {-1, 0, 1, 13, Integer.MAX_VALUE}) {
            DUE.is("spilt: no such n", n.spilt(no, -1), -1);
            DUE.is("the tape stays", n.count(5), 20);
        }
        DUE.is("three", n.spilt(3, -1), 6);
        DUE.is("the tape is empty", n.count(5), 0);
        DUE.is("one is not told", spilt(n, -1, 0, 6), -2);
        DUE.is("one is beyond", spilt(n, -1, 0, 32), -2);
        DUE.is("one is beyond", spilt(n, 0, 255, 0), -2);
        DUE.is("one twice", spilt(n, -1, 3, 1, 3), -2);
        DUE.is("one twice", spilt(n, 9, 3, 1, 3), -2);
        DUE.is("the tape is empty", n.count(5), 0);
        firstIs(n, new int[] {4, 2, 3}, 2, 3, 4);
        n.clue(4, 2);
        n.clue(5, 0);
        DUE.is("half of them", spilt(n, -1, 4, 2, 3), 3);
        firstIs(n, new int[] {4, 2, 3}, 3, 4, 2);
        n.clue(4, 2);
        DUE.is("told again", spilt(n, -1, 4, 2, 3), 3);
        DUE.is("with those alone that are spilt", spilt(n, -1, 2, 3, 0), 6);
        n.clue(2, 3);
        DUE.is("a row", spilt(n, -1, 4, 2, 3), 1);
        firstIs(n, new int[] {2, 3, 4}, 4, 2, 3);
        firstIs(n, new int[] {5, 4, 3, 2, 1, 0}, 1, 4, 2, 3, 5, 0);
        DUE.is("orders of all", spilt(n, -1, 0, 1, 2, 3, 4, 5), 720 / 6 / 2);
        n.clue(3, 4);
        DUE.is("no order", spilt(n, -1, 4, 2, 3), 0);
        DUE.is("no first", spilt(n, 0, 4, 2, 3), -2);
        DUE.is("two of them", spilt(n, -1, 4, 2), 1);
    }

    private static long says(SlideNight n, int i, int j, int what, int... slides) {
        Due.feed(n, slides);
        return n.says(slides.length, i, j, what);
    }

    /** Promise 25. */
    private static void says() {
        SlideNight n = Due.withSlides(6);
        DUE.is("it has not so many", n.says(2, 0, 1, 0), -1);
        Due.feed(n, 0, 1, 2);
        for (int[] no : new int[][] {{1, 0}, {13, 0}, {-1, 0}, {3, -1}, {3, 4}}) {
            DUE.is("says: no such ones", n.says(no[0], 0, 1, no[1]), -1);
            DUE.is("the tape stays", n.count(5), 20);
        }
        DUE.is("three", n.says(3, 0, 1, 0), 3);
        DUE.is("the tape is empty", n.count(5), 0);
        DUE.is("not among them", says(n, 0, 3, 0, 0, 1, 2), -3);
        DUE.is("not among them", says(n, -1, 0, 0, 0, 1, 2), -3);
        DUE.is("not among them", says(n, 0, 40, 0, 0, 1, 2), -3);
        DUE.is("the same", says(n, 1, 1, 0, 0, 1, 2), -3);
        DUE.is("not told", says(n, 0, 1, 0, 0, 1, 6), -2);
        DUE.is("one twice", says(n, 0, 9, 0, 0, 1, 1), -2);
        DUE.is("one twice", says(n, 0, 1, 1, 0, 1, 1), -2);
        n.clue(0, 1);
        // 0 ahead of 1: of three orders 2 is behind 0 in two, behind 1 in one.
        DUE.is("0 ahead of 2", says(n, 0, 2, 0, 2, 1, 0), 2);
        DUE.is("2 ahead of 0", says(n, 2, 0, 0, 2, 1, 0), 1);
        DUE.is("1 ahead of 2", says(n, 1, 2, 0, 2, 1, 0), 1);
        DUE.is("0 ahead of 1", says(n, 0, 1, 0, 2, 1, 0), 3);
        DUE.is("1 ahead of 0", says(n, 1, 0, 0, 2, 1, 0), 0);
        DUE.is("the lower", says(n, 77, -77, 1, 2, 1, 0), 0);
        DUE.is("the higher", says(n, 77, 77, 2, 2, 1, 0), 2);
        DUE.is("the lesser", says(n, 0, 0, 3, 2, 1, 0), 1);
        n.clue(2, 3);
        // 0 1, 2 3 in six orders: 0 against 2 three times, as 1 against 3.
        DUE.is("the lower", says(n, 0, 0, 1, 3, 2, 1, 0), 0);
        DUE.is("the higher", says(n, 0, 0, 2, 3, 2, 1, 0), 2);
        DUE.is("the lesser", says(n, 0, 0, 3, 3, 2, 1, 0), 3);
        n.clue(0, 2);
        // 0 first: 1 and 2 3 in three orders; 1 against 2 once, 1 against 3 once.
        DUE.is("the lower", says(n, 0, 0, 1, 3, 2, 1, 0), 1);
        DUE.is("the higher", says(n, 0, 0, 2, 3, 2, 1, 0), 2);
        DUE.is("the lesser", says(n, 0, 0, 3, 3, 2, 1, 0), 1);
        n.clue(1, 2);
        for (int what = 1; what < 4; what++) {
            DUE.is("none says more", says(n, 0, 0, what, 3, 2, 1, 0), -2);
        }
        DUE.is("the one order", says(n, 1, 3, 0, 3, 2, 1, 0), 1);
        n.clue(3, 0);
        DUE.is("no order", says(n, 1, 3, 0, 3, 2, 1, 0), 0);
        DUE.is("no order", says(n, 1, 3, 3, 3, 2, 1, 0), -2);
    }

    private static void twelve() {
        SlideNight n = Due.withSlides(32);
        int[] last = {31, 30, 29, 28, 27, 26, 25, 24, 23, 22, 21, 20};
        DUE.is("all orders of twelve", spilt(n, -1, last), 479001600);
        DUE.is("half of them", says(n, 31, 20, 0, last), 239500800);
        DUE.is("the lower", says(n, 0, 0, 1, last), 20);
        DUE.is("the higher", says(n, 0, 0, 2, last), 21);
        DUE.is("the lesser", says(n, 0, 0, 3, last), 239500800);
        n.clue(31, 20);
        DUE.is("half of them", spilt(n, -1, last), 239500800);
        DUE.is("not 20 and 21", says(n, 0, 0, 1, last), 21);
        DUE.is("but 21 and 22", says(n, 0, 0, 2, last), 22);
        for (int i = 20; i < 31; i++) {
            n.clue(i + 1, i);
        }
        DUE.is("one order of twelve", spilt(n, -1, last), 1);
        DUE.is("its first", spilt(n, 0, last), 31);
        DUE.is("its last", spilt(n, 11, last), 20);
        SlideNight pairs = Due.withSlides(12);
        for (int i = 0; i < 12; i += 2) {
            pairs.clue(i + 1, i);
        }
        int[] all = {0, 1, 2, 3, 4, 5, 6, 7, 8, 9, 10, 11};
        DUE.is("six twos", spilt(pairs, -1, all), 479001600 / 64);
        DUE.is("the first", spilt(pairs, 11, all), 10);
        DUE.is("0 against 2", says(pairs, 0, 0, 3, all), 479001600 / 128);
        DUE.is("0 against 2", says(pairs, 0, 0, 2, all), 2);
    }

    /** Promise 26. */
    private static void shadow() {
        SlideNight n = new SlideNight();
        for (int[] no : new int[][] {{-1, 0, 0}, {4, 0, 0}, {0, -1, 0}, {0, 4, 0}, {0, 0, -1}, {0, 0, 3}}) {
            DUE.is("shadow: no such ones", n.shadow(no[0], no[1], no[2]), -1);
        }
        // By where it looks (north, east, south, west), then by left, right, towards one, away.
        int[][] due = {{1, 4, 0, 2}, {2, 0, 1, 4}, {4, 1, 2, 0}, {0, 2, 4, 1}};
        for (int looks = 0; looks < 4; looks++) {
            for (int falls = 0; falls < 4; falls++) {
                int mirrored = due[looks][new int[] {1, 0, 2, 3}[falls]];
                DUE.is("as it is SHOWN", n.shadow(looks, falls, 0), due[looks][falls]);
                DUE.is("if it is mirrored", n.shadow(looks, falls, 1), mirrored);
                DUE.is("of both", n.shadow(looks, falls, 2), due[looks][falls] | mirrored);
            }
        }
    }

    /** Promise 27. */
    private static void links() {
        SlideNight n = Due.withSlides(8);
        for (int[] no : new int[][] {{0, 0}, {0, 8}, {8, 0}, {-1, 0}, {0, -1}, {32, 0}, {0, 32}}) {
            DUE.is("link: no such ones", n.link(no[0], no[1]), -1);
        }
        DUE.is("none yet", n.count(9), 0);
        for (int k = 0; k < 12; k++) {
            DUE.is("link", n.link(k % 7, k % 7 + 1), k + 1);
        }
        DUE.is("12 are there", n.link(0, 7), -1);
        DUE.is("12 are there", n.count(9), 12);
    }

    private static void outIs(SlideNight n, int seconds, int... due) {
        for (int what = 0; what < 3; what++) {
            DUE.is("leftOut(" + seconds + ", " + what + ")", n.leftOut(seconds, what), due[what]);
        }
    }

    /** Promise 28. */
    private static void leftOut() {
        SlideNight n = new SlideNight();
        int[] worths = {10, 20, 30, 30, 0};
        for (int i = 0; i < 5; i++) {
            Due.slide(n, 2 * i, Due.UNLIKE, 0, 0, worths[i]);
        }
        outIs(n, 9999, 0, 0, 0);
        for (int[] no : new int[][] {{-1, 0}, {10000, 0}, {0, -1}, {0, 3}}) {
            DUE.is("leftOut: no such ones", n.leftOut(no[0], no[1]), -1);
        }
        Due.tray(n, "8-0,(4)2,9,31");
        // SLIDES 0, 2, 4, 6, 8: worth 10 20 30 30 0 by 1 3 5 7 9 seconds.
        Due.law(n, "si+1+o(1=1)");
        outIs(n, 0, 0, 0, 0);
        outIs(n, 1, 10, 1, 1);
        outIs(n, 3, 20, 2, 3);
        outIs(n, 4, 30, 3, 4);
        // 0 and 2 are worth as much as 4 alone: the least bits.
        outIs(n, 5, 30, 3, 4);
        outIs(n, 6, 40, 5, 6);
        outIs(n, 12, 60, 7, 9);
        outIs(n, 16, 90, 15, 16);
        outIs(n, 9999, 90, 15, 16);
        n.link(4, 0);
        outIs(n, 1, 0, 0, 0);
        outIs(n, 6, 40, 5, 6);
        outIs(n, 4, 20, 2, 3);
        n.link(8, 2);
        outIs(n, 23, 70, 13, 13);
        outIs(n, 24, 80, 30, 24);
        outIs(n, 25, 90, 31, 25);
        n.gone(8);
        outIs(n, 25, 90, 15, 16);
        // One that is not in the tray is not among these.
        Due.slide(n, 20, Due.UNLIKE, 0, 0, 50);
        n.link(20, 6);
        outIs(n, 9999, 60, 7, 9);
        Due.tray(n, "0,20,6");
        outIs(n, 9999, 80, 6, 28);
        SlideNight many = Due.withSlides(20);
        Due.tray(many, "19-3");
        Due.law(many, "s1(1=1)");
        outIs(many, 9999, 3 + 4 + 5 + 6 + 7 + 8 + 9 + 10 + 11 + 12 + 13 + 14, 4095, 12);
        many.link(19, 14);
        many.link(15, 13);
        outIs(many, 2, 12 + 11, 3 << 8, 2);
    }
}
