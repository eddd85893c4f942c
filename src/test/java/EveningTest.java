/** Promises 15, 16, 31, 33 and 34: evenings, the hand that puts in, kept and undone. */
public final class EveningTest {
    private static final Due DUE = new Due();

    public static void main(String[] args) {
        draws();
        shownOnes();
        noticing();
        turning();
        jamming();
        lamps();
        sleeping();
        triedChangesNothing();
        puttingIn();
        keeping();
        DUE.end();
    }

    private static int draw(int x, int times) {
        int at = x;
        for (int k = 0; k < times; k++) {
            at = (25173 * at + 13849) % 65536;
        }
        return at;
    }

    /** A seed whose next draws are below (1) or not below (0) what is told. */
    private static int seedFor(int below, int... wanted) {
        for (int seed = 0; seed < 65536; seed++) {
            boolean fits = true;
            for (int k = 0; k < wanted.length; k++) {
                fits &= draw(seed, k + 1) % 10 < below == (wanted[k] == 1);
            }
            if (fits) {
                return seed;
            }
        }
        throw new IllegalStateException("no such seed");
    }

    private static void draws() {
        SlideNight n = Due.withSlides(2);
        Due.tray(n, "0,1,0");
        n.evening();
        DUE.is("a draw for each lamp", n.count(6), draw(1, 3));
        n.put(0, 3);
        n.seed(77);
        n.looker(1, 0, 9);
        n.looker(4, 0, 9);
        n.evening();
        DUE.is("two lookers draw for each WRONG one", n.count(6), draw(77, 3 + 4));
        Due.law(n, "n10(l=1)");
        n.seed(65535);
        n.evening();
        // IN 3: turn 1 makes it right, and once it is right nobody draws.
        DUE.is("a draw for the turn", n.count(6), draw(65535, 3 + 2 + 1));
        n.put(0, 1);
        n.seed(5);
        n.evening();
        DUE.is("a draw for each turn", n.count(6), draw(5, 3 + 2 + 3));
        n.looker(4, 0, 0);
        n.put(0, 1);
        n.seed(5);
        n.evening();
        DUE.is("who sleeps draws not", n.count(6), draw(5, 3 + 1 + 3));
    }

    private static void shownOnes() {
        SlideNight n = Due.withSlides(3);
        Due.law(n, "s10+i(1=1)");
        DUE.is("no tray", n.evening(), 0);
        Due.tray(n, "2,9,0-1,2");
        DUE.is("seconds", n.tried(0), 12 + 10 + 11 + 12);
        DUE.is("SHOWN", n.tried(1), 4);
        DUE.is("evening", n.evening(), 45);
        DUE.is("tried(-1)", n.tried(-1), -1);
        DUE.is("tried(8)", n.tried(8), -1);
        n.gone(2);
        DUE.is("without the one that is gone", n.evening(), 21);
    }

    private static void noticing() {
        SlideNight n = Due.withSlides(1);
        n.put(0, 3);
        Due.tray(n, "0");
        Due.law(n, "n5(1=1)");
        DUE.is("nobody there", n.tried(2), 0);
        n.looker(2, 0, 100);
        n.looker(5, 0, 100);
        for (int first = 0; first < 2; first++) {
            for (int second = 0; second < 2; second++) {
                n.seed(seedFor(5, first, second));
                DUE.is("noticed", n.tried(2), first | second);
                DUE.is("turned", n.tried(3), first | second);
                DUE.is("WRONG in the end", n.tried(7), 1 - (first | second));
            }
        }
        n.put(0, 0);
        n.seed(seedFor(5, 1, 1));
        DUE.is("one that is right", n.tried(2), 0);
        Due.slide(n, 0, Due.HALF, 0, 0, 0);
        n.put(0, 2);
        DUE.is("one that looks right", n.tried(2), 0);
        DUE.is("it stays IN 2", n.slideIs(0, 0), 2);
        n.evening();
        DUE.is("it stays IN 2", n.slideIs(0, 0), 2);
    }

    private static void turning() {
        // By which turn each WAY is right: of one that is unlike by all, of a corner, of one that is upright.
        int[] unlike = {0, 3, 2, 1, 4, 5, 6, 7};
        int[] corner = {0, 3, 2, 1, 3, 2, 1, 0};
        int[] corneredIn = {0, 0, 0, 0, 7, 7, 7, 7};
        for (int way = 0; way < 8; way++) {
            SlideNight n = Due.withSlides(1);
            n.looker(0, 0, 9999);
            Due.tray(n, "0");
            Due.law(n, "n10(1=1);t10*m+q+1(1=1);s20(1=1)");
            n.put(0, way);
            int seconds = 20;
            for (int turn = 1; turn <= unlike[way]; turn++) {
                seconds += turn % 4 + turn / 4 * 10 + 1;
            }
            DUE.is("turns from " + way, n.tried(3), unlike[way]);
            DUE.is("seconds from " + way, n.evening(), seconds);
            DUE.is("IN from " + way, n.slideIs(0, 0), 0);
            Due.slide(n, 0, Due.CORNER, 0, 0, 0);
            n.put(0, way);
            DUE.is("turns of the corner from " + way, n.tried(3), corner[way]);
            n.evening();
            DUE.is("IN of the corner from " + way, n.slideIs(0, 0), corneredIn[way]);
        }
    }

    private static void jamming() {
        SlideNight n = Due.withSlides(2);
        n.looker(0, 0, 9999);
        n.put(0, 4);
        Due.tray(n, "0,1");
        Due.law(n, "n10(1=1);t7(1=1);j5(1=1);s1(1=1)");
        n.keep();
        n.seed(seedFor(5, 0, 0, 0, 1));
        DUE.is("turns", n.tried(3), 3);
        DUE.is("jams", n.tried(4), 1);
        DUE.is("WRONG", n.tried(7), 1);
        DUE.is("seconds", n.evening(), 23);
        DUE.is("IN", n.slideIs(0, 0), n.ways(4, 3, 0));
        n.undo();
        n.seed(seedFor(5, 0, 0, 0, 0, 1));
        DUE.is("jams when it is right", n.tried(4), 1);
        DUE.is("and is right", n.tried(7), 0);
        DUE.is("turns", n.tried(3), 4);
        n.seed(seedFor(5, 0, 0, 0, 0, 0));
        DUE.is("no jam", n.tried(4), 0);
        // The WAY it is IN when it jams is the one that is tried: from 4 by turn 2 that is 6.
        Due.law(n, "n10(1=1);j10(q=2&m=1)");
        n.put(0, 4);
        DUE.is("turns till it jams", n.tried(3), 2);
        n.evening();
        DUE.is("jammed IN", n.slideIs(0, 0), 6);
    }

    private static void lamps() {
        SlideNight n = Due.withSlides(3);
        Due.tray(n, "0,1,2");
        Due.law(n, "s5(1=1);x10(i=1)");
        DUE.is("over when the lamp has popped", n.tried(1), 2);
        n.lamps(2);
        DUE.is("another lamp", n.tried(1), 3);
        DUE.is("pops", n.tried(5), 1);
        n.evening();
        DUE.is("a LAMP less", n.count(2), 1);
        n.evening();
        DUE.is("none left", n.count(2), 0);
        DUE.is("over at once", n.evening(), 0);
        n.lamps(9);
        Due.law(n, "s5(1=1);x3(1=1)");
        n.seed(seedFor(3, 1, 0, 1));
        DUE.is("pops", n.tried(5), 2);
        n.lamps(1);
        n.seed(seedFor(3, 1));
        DUE.is("seconds of the one that popped", n.evening(), 5);
        // x is asked of the WAY it is IN behind its turning.
        n.lamps(1);
        n.looker(0, 0, 99);
        n.put(0, 3);
        Due.law(n, "n10(1=1);x10(q=3)");
        DUE.is("turned before", n.tried(5), 0);
    }

    private static void sleeping() {
        SlideNight n = Due.withSlides(2);
        n.looker(0, 0, 0);
        n.looker(1, 0, 10);
        n.looker(2, 0, 11);
        n.looker(7, 0, 9999);
        Due.tray(n, "0");
        Due.law(n, "s10(1=1)");
        DUE.is("awake", n.tried(6), 132);
        DUE.is("who is awake is not in the LAMPS' way", n.evening(), 10);
        DUE.is("PATIENCE comes back", n.count(21), 10);
        DUE.is("awake next time", n.tried(6), 132);
        Due.law(n, "s0(1=1)");
        DUE.is("awake with no seconds", n.tried(6), 134);
        // The seconds of turns are taken, too; who sleeps notices no more.
        n.looker(2, 0, 12);
        n.gone(1);
        Due.slide(n, 1, Due.UNLIKE, 0, 0, 0);
        n.put(0, 3);
        n.put(1, 3);
        Due.tray(n, "0,1");
        Due.law(n, "s10(1=1);t2(1=1);n10(l=2)");
        DUE.is("noticed once", n.tried(2), 1);
        DUE.is("awake", n.tried(6), 128);
        n.looker(2, 0, 13);
        DUE.is("noticed twice", n.tried(2), 2);
        DUE.is("and asleep", n.tried(6), 128);
        n.lamps(0);
        DUE.is("awake without a lamp", n.tried(6), 134);
    }

    private static void triedChangesNothing() {
        SlideNight n = Due.withSlides(2);
        n.looker(0, 5, 99);
        n.lamps(3);
        n.put(0, 3);
        Due.tray(n, "0,1");
        Due.law(n, "s10(1=1);t2(1=1);n10(1=1);x10(1=1)");
        for (int what = 0; what < 8; what++) {
            n.tried(what);
        }
        DUE.is("WAY", n.slideIs(0, 0), 3);
        DUE.is("LAMPS", n.count(2), 3);
        DUE.is("X", n.count(6), 1);
        int seconds = n.tried(0);
        DUE.is("as tried", n.evening(), seconds);
        DUE.is("LAMPS", n.count(2), 1);
    }

    /** Promise 31. */
    private static void puttingIn() {
        SlideNight n = new SlideNight();
        DUE.is("without SLIDES", n.putIn(), 0);
        DUE.is("X stays", n.count(6), 1);
        n = Due.withSlides(4);
        n.gone(2);
        n.put(3, 6);
        DUE.is("without w", n.putIn(), 1);
        DUE.is("without w it stays", n.slideIs(3, 0), 6);
        DUE.is("X goes on for each told SLIDE", n.count(6), draw(1, 3));
        Due.slide(n, 2, Due.UNLIKE, 2, 0, 2);
        Due.law(n, "w0(i=1);w2(q=0);w3(m=1);w1(1=1)");
        // WAYS 0 to 7: 2 1 1 1 2 3 3 3, together 16.
        int[] parts = {0, 0, 1, 2, 3, 4, 4, 5, 5, 5, 6, 6, 6, 7, 7, 7};
        Due.slide(n, 3, Due.PLAIN, 0, 0, 0);
        n.put(1, 5);
        for (int seed = 0; seed < 200; seed += 7) {
            n.seed(seed);
            int first = parts[draw(seed, 1) % 16];
            int second = parts[draw(seed, 3) % 16];
            DUE.is("how many are WRONG", n.putIn(), 1 + (first > 0 ? 1 : 0) + (second > 0 ? 1 : 0));
            DUE.is("IN", n.slideIs(0, 0), first);
            DUE.is("without w it stays", n.slideIs(1, 0), 5);
            DUE.is("IN", n.slideIs(2, 0), second);
            DUE.is("IN, though it looks right", n.slideIs(3, 0), parts[draw(seed, 4) % 16]);
            DUE.is("X", n.count(6), draw(seed, 4));
        }
        n.put(0, 3);
        Due.law(n, "w99(q=0&m=0)");
        DUE.is("all right but for none", n.putIn(), 0);
    }

    /** Promises 33 and 34. */
    private static void keeping() {
        SlideNight n = Due.withSlides(3);
        DUE.is("none was KEPT", n.undo(), false);
        n.put(0, 3);
        n.day(0, 44);
        n.sure(0, 2);
        n.looker(1, 2, 3);
        n.lamps(4);
        n.clue(0, 1);
        n.link(1, 2);
        n.seed(99);
        Due.tray(n, "0,1");
        Due.law(n, "s1(1=1)");
        DUE.is("keep", n.keep(), 3);
        n.gone(1);
        Due.slide(n, 0, Due.PLAIN, 3, 3, 77);
        n.sure(2, 1);
        n.looker(1, 5, 6);
        n.looker(2, 5, 6);
        n.lamps(9);
        n.clue(0, 2);
        n.link(0, 2);
        n.seed(5);
        Due.tray(n, "2");
        Due.law(n, "s1(1=1);s2(1=1)");
        for (int round = 0; round < 2; round++) {
            Due.feed(n, "x");
            DUE.is("undo", n.undo(), true);
            int[] due = {3, 2, 4, 1, 2, 20, 99, 1, 1, 1};
            for (int what = 0; what < due.length; what++) {
                DUE.is("undone: count(" + what + ")", n.count(what), due[what]);
            }
            DUE.is("undone: EYES", n.count(11), 2);
            DUE.is("undone: PATIENCE", n.count(21), 3);
            int[] slide = {3, 1, 1, 8, 0, 0, 0, 44};
            for (int what = 0; what < slide.length; what++) {
                DUE.is("undone: slideIs(0, " + what + ")", n.slideIs(0, what), slide[what]);
            }
            DUE.is("undone: picture", n.shown(0, 0, 4), 'a');
            DUE.is("undone: dots", n.dots(0, -1), 1 << 3);
            DUE.is("the tray is not KEPT", n.inTray(0), 2);
            n.law(1);
            Due.feed(n, 1, 0);
            DUE.is("undone: clue", n.spilt(2, -1), 1);
            Due.feed(n, 1, 0);
            DUE.is("undone: clue", n.spilt(2, 0), 0);
            Due.feed(n, 2, 0);
            DUE.is("undone: no other clue", n.spilt(2, -1), 2);
            Due.feed(n, "2,1");
            n.tray(3);
            DUE.is("undone: link", n.leftOut(1, 1), 1);
            Due.feed(n, "2");
            n.tray(1);
            DUE.is("undone: link", n.leftOut(1, 1), 0);
            n.put(0, 6);
            n.evening();
            n.gone(2);
            n.clue(1, 0);
            n.lamps(1);
            n.looker(1, 0, 0);
        }
        n.undo();
        n.gone(0);
        DUE.is("KEPT again", n.keep(), 2);
        n.gone(1);
        n.undo();
        DUE.is("as KEPT last", n.count(0), 2);
        DUE.is("as KEPT last", n.count(7), 0);
    }
}
