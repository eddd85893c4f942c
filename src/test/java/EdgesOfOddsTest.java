/** Promises 11 to 13, 17 to 19, 21, 22, 29, 30 and 35: each sentence about a bound, none at all, or what is refused. */
public final class EdgesOfOddsTest {
    private static final Due DUE = new Due();
    private static final int[] NOT_TOLD = {-1, 1, 32, 64, Integer.MIN_VALUE, Integer.MAX_VALUE};

    public static void main(String[] args) {
        waysBounds();
        quartersWrapAround();
        shownBounds();
        slideIsOthers();
        unlikePictures();
        oddsOfShows();
        oddsByNoWay();
        oddsBounds();
        oddsTapeTooShort();
        oddsWithoutCommonDivisor();
        toTurnBounds();
        toTurnWithoutOften();
        toTurnTellsAllSeven();
        toTurnWithoutCommonDivisor();
        toTurnLeastRow();
        leaveBounds();
        leaveNoSlide();
        leaveBelowNothing();
        leaveOneThatIsRight();
        leaveByAllTold();
        leaveWithoutJams();
        dotsBounds();
        dotsWithoutSureOnes();
        dotsOfSlidesNotTold();
        dotsThatFitNone();
        boxBounds();
        boxNotAbove();
        boxLeastBits();
        boxOddsAsItIsIn();
        boxTwelve();
        boxWithoutCommonDivisor();
        boxOfNone();
        lampBounds();
        lampLasts();
        handBounds();
        handWithoutCommonDivisor();
        handLowestSix();
        checkBounds();
        checkTapeTooShort();
        checkPlaces();
        DUE.end();
    }

    private static void waysBounds() {
        DUE.by("Promise 11", "NONE: no such ones");
        SlideNight n = new SlideNight();
        for (int what = 0; what < 3; what++) {
            for (int no : Due.beyond(0, 7)) {
                DUE.is("ways(" + no + ", 0, " + what + ")", n.ways(no, 0, what), -1);
                DUE.is("ways(0, " + no + ", " + what + ")", n.ways(0, no, what), -1);
            }
            DUE.is("ways(0, 0, " + what + ")", n.ways(0, 0, what), 0);
            DUE.is("ways(7, 7, " + what + ")", n.ways(7, 7, what), what == 1 ? 7 : 0);
        }
        for (int no : Due.beyond(0, 2)) {
            DUE.is("ways(0, 0, " + no + ")", n.ways(0, 0, no), -1);
        }
    }

    private static void quartersWrapAround() {
        DUE.by("Terms", "then turned by the WAY modulo 4 quarters to the right");
        SlideNight n = new SlideNight();
        DUE.is("three and one", n.ways(3, 1, 0), 0);
        DUE.is("three and three", n.ways(3, 3, 0), 2);
        DUE.is("mirrored, three and one", n.ways(7, 1, 0), 4);
        DUE.is("three, then mirrored", n.ways(3, 4, 0), 5);
        DUE.is("mirrored and three, then mirrored", n.ways(7, 4, 0), 1);
        DUE.is("three back", n.ways(3, 0, 1), 1);
        DUE.is("from three to none", n.ways(3, 0, 2), 1);
        DUE.is("from none to three", n.ways(0, 3, 2), 3);
        for (int a = 0; a < 8; a++) {
            DUE.is("and back", n.ways(a, n.ways(a, 0, 1), 0), 0);
            for (int b = 0; b < 8; b++) {
                DUE.is("one, then the other", n.ways(a, b, 0), NaiveNight.then(a, b));
                DUE.is("the turn", n.ways(a, b, 2), NaiveNight.turn(a, b));
            }
        }
    }

    private static void shownBounds() {
        DUE.by("Promise 12", "NONE: no such ones");
        SlideNight n = Due.withSlides(1);
        for (int way = 0; way < 8; way++) {
            n.put(0, way);
            for (int no : new int[] {-1, 5, Integer.MIN_VALUE, Integer.MAX_VALUE}) {
                DUE.is("shown(0, " + no + ", 0)", n.shown(0, no, 0), -1);
                DUE.is("shown(0, 0, " + no + ")", n.shown(0, 0, no), -1);
            }
            DUE.is("a corner", n.shown(0, 0, 0) == -1, false);
            DUE.is("the other corner", n.shown(0, 4, 4) == -1, false);
        }
        for (int i : NOT_TOLD) {
            DUE.is("shown(" + i + ", 0, 0)", n.shown(i, 0, 0), -1);
        }
    }

    private static void slideIsOthers() {
        DUE.by("Promise 13", "NONE for others");
        SlideNight n = Due.withSlides(1);
        for (int what : Due.beyond(0, 7)) {
            DUE.is("slideIs(0, " + what + ")", n.slideIs(0, what), -1);
        }
        for (int i : NOT_TOLD) {
            for (int what = 0; what < 8; what++) {
                DUE.is("slideIs(" + i + ", " + what + ")", n.slideIs(i, what), -1);
            }
        }
        n.gone(0);
        DUE.is("one that is gone", n.slideIs(0, 0), -1);
    }

    private static void unlikePictures() {
        DUE.by("Promise 13", "2 WAYS that are ALIKE 0 (bits), 3 how many unlike PICTURES it has by all WAYS");
        String whirled = ".a.......a.....a.......a.";
        String[] pictures = {Due.UNLIKE, Due.CORNER, Due.HALF, Due.UPRIGHT, whirled, Due.PLAIN};
        int[] alike = {1, 129, 5, 17, 15, 255};
        int[] unlike = {8, 4, 4, 4, 2, 1};
        for (int k = 0; k < pictures.length; k++) {
            SlideNight n = new SlideNight();
            Due.slide(n, 0, pictures[k], 0, 0, 0);
            DUE.is(pictures[k] + " ALIKE", n.slideIs(0, 2), alike[k]);
            DUE.is(pictures[k] + " unlike", n.slideIs(0, 3), unlike[k]);
        }
    }

    /** SLIDE 0 with an a and a b beside it, and w as often as WAYS 0 to 7 have 1 2 3 4 5 6 7 8. */
    private static SlideNight handNight() {
        SlideNight n = Due.withSlides(1);
        Due.law(n, "w1+q+4*m(1=1);t1(1=1)");
        return n;
    }

    private static int oddsOf(SlideNight n, int way, int what, int... shows) {
        if (shows.length > 0) {
            Due.feed(n, shows);
        }
        return n.odds(0, way, shows.length / 3, what);
    }

    private static void oddsOfShows() {
        DUE.by("Promise 17", "by SHOWS, the first 3 n bytes of the tape (x, y, sign; n 0 to 8; empty then)");
        SlideNight n = handNight();
        DUE.is("none shown: above", oddsOf(n, 0, 0), 1);
        DUE.is("none shown: below", oddsOf(n, 0, 1), 36);
        int[] eight = {0, 0, 'a', 1, 0, 'b', 4, 4, '.', 0, 0, 'a', 1, 0, 'b', 4, 4, '.', 2, 2, '.', 2, 2, '.'};
        DUE.is("eight shown", oddsOf(n, 0, 1, eight), 1);
        eight[23] = 'c';
        DUE.is("the eighth is looked at", oddsOf(n, 0, 1, eight), -2);
        Due.feed(n, 0, 0, 'a', 9, 9, 9);
        DUE.is("those behind are not", n.odds(0, 0, 1, 1), 9);
        DUE.is("the tape is empty", n.count(5), 0);
        Due.feed(n, 0, 0, 'a');
        DUE.is("by none of them", n.odds(0, 0, 0, 1), 36);
        DUE.is("the tape is empty", n.count(5), 0);
        Due.feed(n, 0, 0, 'z');
        DUE.is("by no WAY", n.odds(0, 0, 1, 1), -2);
        DUE.is("the tape is empty", n.count(5), 0);
    }

    private static void oddsByNoWay() {
        DUE.by("Promise 17", "-2: by no WAY with a w above 0 it shows so (places beyond 4 show nothing)");
        SlideNight n = handNight();
        for (int what = 0; what < 2; what++) {
            DUE.is("no such sign", oddsOf(n, 0, what, 2, 2, 'a'), -2);
            for (int no : new int[] {5, 6, 127, 128, 255}) {
                DUE.is("x beyond 4", oddsOf(n, 0, what, no, 0, '.'), -2);
                DUE.is("y beyond 4", oddsOf(n, 0, what, 0, no, '.'), -2);
                DUE.is("no sign there, either", oddsOf(n, 0, what, no, no, 255), -2);
                DUE.is("one of two", oddsOf(n, 0, what, 0, 0, 'a', no, 0, '.'), -2);
            }
            DUE.is("4 is not beyond", oddsOf(n, 2, what, 4, 4, 'a', 3, 4, 'b'), 1);
        }
        Due.law(n, "w9(q=1&m=0)");
        DUE.is("a WAY without w", oddsOf(n, 1, 0, 0, 0, 'a'), -2);
        DUE.is("another WAY has one", oddsOf(n, 0, 0, 4, 0, 'a'), 0);
        Due.law(n, "s9(1=1)");
        DUE.is("no WAY has one", oddsOf(n, 0, 0), -2);
    }

    private static void oddsBounds() {
        DUE.by("Promise 17", "NONE: no such ones");
        SlideNight n = handNight();
        Due.feed(n, new byte[40]);
        for (int i : NOT_TOLD) {
            DUE.is("odds(" + i + ", 0, 0, 0)", n.odds(i, 0, 0, 0), -1);
        }
        for (int no : Due.beyond(0, 7)) {
            DUE.is("odds(0, " + no + ", 0, 0)", n.odds(0, no, 0, 0), -1);
        }
        for (int no : Due.beyond(0, 8)) {
            DUE.is("odds(0, 0, " + no + ", 0)", n.odds(0, 0, no, 0), -1);
        }
        for (int no : Due.beyond(0, 1)) {
            DUE.is("odds(0, 0, 0, " + no + ")", n.odds(0, 0, 0, no), -1);
        }
        DUE.is("the tape stays", n.count(5), 40);
        DUE.is("WAY 7, by none", n.odds(0, 7, 0, 0), 2);
    }

    private static void oddsTapeTooShort() {
        DUE.by("Promise 17", "it has not so many (the tape stays)");
        SlideNight n = handNight();
        DUE.is("one of an empty tape", n.odds(0, 0, 1, 0), -1);
        DUE.is("none of an empty tape", n.odds(0, 0, 0, 0), 1);
        int[] six = {0, 0, 'a', 0, 0, 'a', 0, 0, 'a', 0, 0, 'a', 0, 0, 'a', 0, 0, 'a', 0, 0};
        Due.feed(n, six);
        DUE.is("21 of 20 bytes", n.odds(0, 0, 7, 1), -1);
        DUE.is("the tape stays", n.count(5), 20);
        DUE.is("24 of 20 bytes", n.odds(0, 0, 8, 1), -1);
        DUE.is("the tape stays", n.count(5), 20);
        DUE.is("18 of 20 bytes", n.odds(0, 0, 6, 1), 9);
    }

    private static void oddsWithoutCommonDivisor() {
        DUE.by("Promise 17", "what 0 above, 1 below the line, without a common divisor");
        SlideNight n = handNight();
        int[][] due = {{1, 36}, {1, 18}, {1, 12}, {1, 9}, {5, 36}, {1, 6}, {7, 36}, {2, 9}};
        for (int way = 0; way < 8; way++) {
            DUE.is("above of " + way, oddsOf(n, way, 0), due[way][0]);
            DUE.is("below of " + way, oddsOf(n, way, 1), due[way][1]);
        }
        DUE.is("0 above", oddsOf(n, 1, 0, 0, 0, 'a'), 0);
        DUE.is("0 above: below", oddsOf(n, 1, 1, 0, 0, 'a'), 1);
        DUE.is("all", oddsOf(n, 0, 0, 0, 0, 'a', 1, 0, 'b'), 1);
        DUE.is("all: below", oddsOf(n, 0, 1, 0, 0, 'a', 1, 0, 'b'), 1);
    }

    private static void toTurnBounds() {
        DUE.by("Promise 18", "NONE: no such ones");
        SlideNight n = handNight();
        for (int what : new int[] {-1, -2, 7, 8, 19, 22, 256, Integer.MIN_VALUE, Integer.MAX_VALUE}) {
            DUE.is("toTurn(0, " + what + ")", n.toTurn(0, what), -1);
        }
        for (int i : NOT_TOLD) {
            DUE.is("toTurn(" + i + ", 0)", n.toTurn(i, 0), -1);
            DUE.is("toTurn(" + i + ", 20)", n.toTurn(i, 20), -1);
        }
        for (int what : new int[] {0, 6, 20, 21}) {
            DUE.is("toTurn(0, " + what + ") is there", n.toTurn(0, what) > 0, true);
        }
    }

    private static void toTurnWithoutOften() {
        DUE.by("Promise 18", "-2: no w above 0");
        SlideNight n = Due.withSlides(1);
        for (String law : new String[] {"t1(1=1)", "w0(1=1)", "w0-1(1=1)"}) {
            Due.law(n, law);
            for (int what : new int[] {0, 6, 20, 21}) {
                DUE.is("toTurn(0, " + what + ")", n.toTurn(0, what), -2);
            }
            DUE.is("no such what first", n.toTurn(0, 7), -1);
        }
        Due.law(n, "w1(q=3&m=1)");
        DUE.is("one w is enough", n.toTurn(0, 20), 0);
    }

    private static void toTurnTellsAllSeven() {
        DUE.by("Promise 18", "else the turn at place what (0 to 6; those behind which it is surely right are told, "
            + "too)");
        DUE.by("Part 2", "a row of 7 turns (1 to 7 each, one perhaps again), behind which it has been in all 8 WAYS");
        for (int way = 0; way < 8; way++) {
            SlideNight n = Due.withSlides(1);
            Due.law(n, "w1(q=" + way % 4 + "&m=" + way / 4 + ");t2(1=1)");
            int been = 1;
            int at = 0;
            for (int place = 0; place < 7; place++) {
                int turn = (int) n.toTurn(0, place);
                DUE.is("a turn", turn >= 1 && turn <= 7, true);
                at = NaiveNight.then(at, turn);
                been |= 1 << at;
            }
            DUE.is("all WAYS", been, 255);
            DUE.is("the first makes it right", way == 0 || n.toTurn(0, 0) == n.ways(way, 0, 1), true);
            DUE.is("seconds", n.toTurn(0, 20), way == 0 ? 0 : 2);
            DUE.is("below", n.toTurn(0, 21), 1);
        }
    }

    private static void toTurnWithoutCommonDivisor() {
        DUE.by("Promise 18", "what 20, 21 the mean above and below the line, without a common divisor");
        String[] laws = {"w2(q=1&m=0);w6(q+m=0);t4(1=1)", "w99(1=1);t99(1=1)", "w99(q+m=0);t99(1=1)",
            "w7(m=0&q<2);t3(1=1)"};
        long[][] due = {{1, 1}, {693, 2}, {0, 1}, {3, 2}};
        for (int k = 0; k < laws.length; k++) {
            SlideNight n = Due.withSlides(1);
            Due.law(n, laws[k]);
            DUE.is(laws[k] + " above", n.toTurn(0, 20), due[k][0]);
            DUE.is(laws[k] + " below", n.toTurn(0, 21), due[k][1]);
        }
    }

    private static void toTurnLeastRow() {
        DUE.by("Part 2", "of like ones the least row");
        int[] least = {1, 1, 1, 4, 1, 1, 1};
        for (String law : new String[] {"w1(1=1)", "w1(1=1);t5(1=1)", "w9(q=0&m=0);t5(1=1)"}) {
            SlideNight n = Due.withSlides(1);
            Due.law(n, law);
            for (int place = 0; place < 7; place++) {
                DUE.is(law + " at " + place, n.toTurn(0, place), least[place]);
            }
            long above = n.toTurn(0, 20);
            Due.slide(n, 1, Due.PLAIN, 0, 0, 0);
            DUE.is(law + ", always right", n.toTurn(1, 20), 0);
            DUE.is(law + ", of the first one as before", n.toTurn(0, 20), above);
        }
    }

    private static void leaveBounds() {
        DUE.by("Promise 19", "-1: no such what (looked at first)");
        SlideNight n = Due.withSlides(1);
        for (int what : Due.beyond(0, 1)) {
            DUE.is("leave(0, " + what + ")", n.leave(0, what), -1);
            for (int i : NOT_TOLD) {
                DUE.is("leave(" + i + ", " + what + ")", n.leave(i, what), -1);
            }
        }
    }

    private static void leaveNoSlide() {
        DUE.by("Promise 19", "-1000000000: no such SLIDE");
        SlideNight n = Due.withSlides(1);
        for (int i : NOT_TOLD) {
            DUE.is("leave(" + i + ", 0)", n.leave(i, 0), -1000000000);
            DUE.is("leave(" + i + ", 1)", n.leave(i, 1), -1000000000);
        }
        n.gone(0);
        DUE.is("one that is gone", n.leave(0, 0), -1000000000);
    }

    private static void leaveBelowNothing() {
        DUE.by("Promise 19", "what 0 above (may be below 0), 1 below the line, without a common divisor");
        SlideNight n = Due.withSlides(1);
        n.put(0, 7);
        Due.law(n, "n5(1=1);p999(1=1);t99(1=1)");
        DUE.is("nobody looks", n.leave(0, 0), -7 * 99);
        DUE.is("nobody looks: below", n.leave(0, 1), 1);
        n.looker(0, 0, 0);
        DUE.is("one looks", n.leave(0, 0), 999 - 2 * 7 * 99);
        DUE.is("one looks: below", n.leave(0, 1), 2);
        Due.law(n, "n4(1=1);p10(1=1);t99(1=1)");
        DUE.is("a divisor below 0, too", n.leave(0, 0), 4 - 7 * 99);
        DUE.is("a divisor below 0, too: below", n.leave(0, 1), 1);
        for (int l = 0; l < 8; l++) {
            n.looker(l, 0, 0);
        }
        Due.law(n, "n9(1=1);p999(1=1)");
        DUE.is("all look", n.leave(0, 0), 999L * 99999999L);
        DUE.is("all look: below", n.leave(0, 1), 100000000L);
        Due.law(n, "n10(1=1);p7(1=1);t1(1=1)");
        DUE.is("as much as it costs", n.leave(0, 0), 0);
        DUE.is("as much as it costs: below", n.leave(0, 1), 1);
    }

    private static void leaveOneThatIsRight() {
        DUE.by("Part 2", "of one that is not WRONG both are 0");
        SlideNight n = new SlideNight();
        Due.slide(n, 0, Due.HALF, 0, 0, 0);
        n.looker(0, 0, 9);
        Due.law(n, "n5(1=1);p9(1=1);t9(1=1)");
        for (int way : new int[] {0, 2}) {
            n.put(0, way);
            DUE.is("above", n.leave(0, 0), 0);
            DUE.is("below", n.leave(0, 1), 1);
        }
        n.put(0, 1);
        DUE.is("one that is WRONG", n.leave(0, 0), 9 - 18);
    }

    private static void leaveByAllTold() {
        DUE.by("Part 2", "the ODDS that one at least of all told notices it as it is IN, all of them awake, z their "
            + "PATIENCE, o 0");
        SlideNight n = Due.withSlides(1);
        n.put(0, 3);
        Due.law(n, "n5(o=0&q=3&z<2);p1(1=1)");
        DUE.is("none is told", n.leave(0, 0), 0);
        DUE.is("none is told: below", n.leave(0, 1), 1);
        for (int told = 1; told <= 8; told++) {
            // Who has no PATIENCE is awake there, too.
            n.looker(8 - told, 0, told % 2);
            DUE.is(told + " told", n.leave(0, 0), (1 << told) - 1);
            DUE.is(told + " told: below", n.leave(0, 1), 1 << told);
        }
        Due.law(n, "n10(l=7);p1(1=1)");
        DUE.is("one surely", n.leave(0, 0), 1);
        DUE.is("one surely: below", n.leave(0, 1), 1);
        n.seed(5);
        n.leave(0, 0);
        DUE.is("nothing is drawn", n.count(6), 5);
    }

    private static void leaveWithoutJams() {
        DUE.by("Part 2", "less what it costs to turn it now by (3) (a penny for each second, without jams)");
        int[] turns = {0, 3, 2, 1, 4, 5, 6, 7};
        SlideNight n = Due.withSlides(1);
        Due.law(n, "t3(1=1);j10(1=1)");
        for (int way = 0; way < 8; way++) {
            n.put(0, way);
            DUE.is("from " + way, n.leave(0, 0), -3 * turns[way]);
            DUE.is("it is not turned by that", n.slideIs(0, 0), way);
        }
    }

    private static void dotsBounds() {
        DUE.by("Promise 21", "NONE: no such ones");
        SlideNight n = new SlideNight();
        for (int no : Due.beyond(0, 3)) {
            DUE.is("dots(" + no + ", -1)", n.dots(no, -1), -1);
            DUE.is("dots(" + no + ", 0)", n.dots(no, 0), -1);
        }
        for (int no : Due.beyond(-1, 3)) {
            DUE.is("dots(0, " + no + ")", n.dots(0, no), -1);
        }
    }

    private static void dotsWithoutSureOnes() {
        DUE.by("Promise 21", "what -1: bits; without SURE ones all");
        SlideNight n = Due.withSlides(1);
        n.sure(0, 0);
        for (int maker = 0; maker < 4; maker++) {
            DUE.is("corners of " + maker, n.dots(maker, -1), maker == 0 ? 1 : 15);
            for (int corner = 0; corner < 4; corner++) {
                int ways = maker == 0 ? new int[] {1 | 128, 2 | 16, 4 | 32, 8 | 64}[corner] : 255;
                DUE.is("WAYS of " + maker + " with " + corner, n.dots(maker, corner), ways);
            }
        }
        n.gone(0);
        DUE.is("without it all again", n.dots(0, -1), 15);
    }

    private static void dotsOfSlidesNotTold() {
        DUE.by("Promise 21", "WAYS of a SLIDE of it (told or not is not asked)");
        SlideNight n = new SlideNight();
        for (int maker = 0; maker < 4; maker++) {
            for (int corner = 0; corner < 4; corner++) {
                DUE.is("of no SLIDE at all", n.dots(maker, corner), 255);
            }
        }
    }

    private static void dotsThatFitNone() {
        DUE.by("Part 2", "corners that fit all of them");
        SlideNight n = Due.withSlides(2);
        n.sure(0, 0);
        n.sure(1, 2);
        DUE.is("none", n.dots(0, -1), 0);
        for (int corner = 0; corner < 4; corner++) {
            DUE.is("no WAY", n.dots(0, corner), 0);
        }
        n.put(1, 2);
        DUE.is("by half a turn", n.dots(0, -1), 1);
        n.put(1, 6);
        DUE.is("mirrored, too", n.dots(0, -1), 0);
        n.sure(1, 3);
        DUE.is("mirrored and half a turn", n.dots(0, -1), 1);
    }

    /** SLIDES 0 to n - 1, all WRONG: one turn of a second each makes them right; surely noticed. */
    private static SlideNight boxNight(int slides, String law) {
        SlideNight n = Due.withSlides(slides);
        for (int i = 0; i < slides; i++) {
            n.put(i, 3);
        }
        n.looker(0, 0, 0);
        DUE.is("law", Due.law(n, "n10(1=1);" + law) > 0, true);
        return n;
    }

    private static void boxBounds() {
        DUE.by("Promise 22", "-1: no such ones (0 to 9999 seconds)");
        SlideNight n = boxNight(1, "t1(1=1);b0(1=1)");
        for (int no : Due.beyond(0, 9999)) {
            DUE.is("lightBox(" + no + ", 0)", n.lightBox(no, 0), -1);
        }
        for (int no : Due.beyond(0, 3)) {
            DUE.is("lightBox(0, " + no + ")", n.lightBox(0, no), -1);
        }
        DUE.is("lightBox(0, 0)", n.lightBox(0, 0), 1);
        DUE.is("lightBox(9999, 3)", n.lightBox(9999, 3), 1);
    }

    private static void boxNotAbove() {
        DUE.by("Part 2", "b of each together not above them");
        SlideNight n = boxNight(3, "t1(1=1);b999(1=1)");
        int[] due = {0, 1, 3, 7};
        for (int many = 1; many <= 3; many++) {
            DUE.is("a second less", n.lightBox(999 * many - 1, 0), due[many - 1]);
            DUE.is("as many", n.lightBox(999 * many, 0), due[many]);
            DUE.is("seconds used", n.lightBox(999 * many, 1), 999 * many);
            DUE.is("one more", n.lightBox(999 * many + 1, 0), due[many]);
        }
        DUE.is("seconds used of all", n.lightBox(9999, 1), 2997);
    }

    private static void boxLeastBits() {
        DUE.by("Part 2", "together most; of like ones the least bits by their numbers");
        SlideNight n = boxNight(4, "t1(1=1);b1(1=1)");
        DUE.is("any one", n.lightBox(1, 0), 1);
        DUE.is("any two", n.lightBox(2, 0), 3);
        DUE.is("any three", n.lightBox(3, 0), 7);
        n.put(0, 2);
        // 0 takes two turns, as 1 and 2 together do.
        Due.law(n, "n10(1=1);t1(1=1);b2(i=0);b1(1=1)");
        DUE.is("0, as 1 and 2", n.lightBox(2, 0), 1);
        Due.law(n, "n10(1=1);t1(1=1);b1(i<2);b2(1=1)");
        n.put(0, 3);
        n.put(2, 2);
        DUE.is("0 and 1, as 2", n.lightBox(2, 0), 3);
        Due.law(n, "n10(1=1);t0(1=1)");
        DUE.is("none, where nothing is saved", n.lightBox(9999, 0), 0);
        DUE.is("none, where nothing is saved", n.lightBox(9999, 1), 0);
    }

    private static void boxOddsAsItIsIn() {
        DUE.by("Part 2", "what it costs to turn them in an evening as (3) does (with ODDS that one notices as in LEAVE "
            + "it)");
        SlideNight n = boxNight(1, "t1(1=1)");
        for (int way = 1; way < 8; way++) {
            n.put(0, way);
            Due.law(n, "n10(q=" + way % 4 + "&m=" + way / 4 + "&o=0&z=0);t1(1=1)");
            DUE.is("noticed as it is IN " + way, n.lightBox(0, 2), new int[] {0, 3, 2, 1, 4, 5, 6, 7}[way]);
            Due.law(n, "n0(q=" + way % 4 + "&m=" + way / 4 + ");n10(1=1);t1(1=1)");
            DUE.is("not noticed as it is IN " + way, n.lightBox(0, 2), 0);
        }
    }

    private static void boxTwelve() {
        DUE.by("Part 2", "(Of the lowest 12 told SLIDES that are WRONG alone.)");
        SlideNight n = boxNight(16, "t1(i<14);t99(1=1);b0(1=1)");
        n.put(0, 0);
        n.gone(2);
        // 1, and 3 to 13 are the lowest twelve that are WRONG; 14 and 15 would save more.
        DUE.is("twelve", n.lightBox(0, 0), 4095);
        DUE.is("what they save", n.lightBox(0, 2), 12);
        n.put(13, 0);
        DUE.is("the next one takes its place", n.lightBox(0, 2), 11 + 99);
        n.put(1, 0);
        n.put(3, 0);
        DUE.is("eleven", n.lightBox(0, 0), 2047);
        DUE.is("what they save", n.lightBox(0, 2), 9 + 2 * 99);
    }

    private static void boxWithoutCommonDivisor() {
        DUE.by("Promise 22", "2, 3 what it saves, above and below the line, without a common divisor");
        String[] laws = {"n5(1=1);t1(1=1)", "n5(1=1);t2(1=1)", "n10(1=1);t5(1=1)", "n3(1=1);t3(1=1)",
            "n4(1=1);t99(1=1)"};
        long[][] due = {{3, 2}, {3, 1}, {15, 1}, {27, 10}, {594, 5}};
        SlideNight n = boxNight(3, "t1(1=1)");
        for (int k = 0; k < laws.length; k++) {
            Due.law(n, laws[k]);
            DUE.is(laws[k] + " above", n.lightBox(0, 2), due[k][0]);
            DUE.is(laws[k] + " below", n.lightBox(0, 3), due[k][1]);
        }
    }

    private static void boxOfNone() {
        DUE.by("Promise 22", "what 0 which SLIDES (bits among the lowest 12 that are WRONG, told by number: the "
            + "lowest bit the lowest one)");
        SlideNight none = new SlideNight();
        SlideNight right = Due.withSlides(3);
        long[] due = {0, 0, 0, 1};
        for (int what = 0; what < 4; what++) {
            DUE.is("no SLIDES", none.lightBox(9999, what), due[what]);
            DUE.is("none that is WRONG", right.lightBox(9999, what), due[what]);
        }
        SlideNight last = boxNight(32, "t1(i>29);b0(1=1)");
        for (int i = 0; i < 29; i++) {
            last.put(i, 0);
        }
        DUE.is("30 and 31 behind 29", last.lightBox(0, 0), 6);
    }

    private static void lampBounds() {
        DUE.by("Promise 29", "-1: no such ones");
        DUE.by("Part 3", "A LAMP lasts n SLIDES (1 to 15)");
        SlideNight n = new SlideNight();
        for (int what = 0; what < 2; what++) {
            for (int no : Due.beyond(0, 10)) {
                DUE.is("lamp(" + no + ", 1, " + what + ")", n.lamp(no, 1, what), -1);
                DUE.is("lamp(" + no + ", 2, " + what + ")", n.lamp(no, 2, what), -1);
            }
            for (int no : Due.beyond(1, 15)) {
                DUE.is("lamp(0, " + no + ", " + what + ")", n.lamp(0, no, what), -1);
            }
        }
        for (int no : Due.beyond(0, 1)) {
            DUE.is("lamp(0, 1, " + no + ")", n.lamp(0, 1, no), -1);
        }
    }

    private static void lampLasts() {
        DUE.by("Promise 29", "A LAMP by x tenths (0 to 10) lasts n SLIDES, what 0 above, 1 below the line, without a "
            + "common divisor");
        SlideNight n = new SlideNight();
        for (int many = 1; many <= 15; many++) {
            DUE.is("by 0: above", n.lamp(0, many, 0), 1);
            DUE.is("by 0: below", n.lamp(0, many, 1), 1);
            DUE.is("by 10: above", n.lamp(10, many, 0), 0);
            DUE.is("by 10: below", n.lamp(10, many, 1), 1);
        }
        DUE.is("by 1 for 15: above", n.lamp(1, 15, 0), 205891132094649L);
        DUE.is("by 1 for 15: below", n.lamp(1, 15, 1), 1000000000000000L);
        DUE.is("by 5 for 15: above", n.lamp(5, 15, 0), 1);
        DUE.is("by 5 for 15: below", n.lamp(5, 15, 1), 32768);
        DUE.is("by 9 for 1: below", n.lamp(9, 1, 1), 10);
    }

    private static void handBounds() {
        DUE.by("Promise 30", "-1: no such what");
        SlideNight n = Due.withSlides(1);
        for (int no : Due.beyond(0, 1)) {
            DUE.is("hand(" + no + ")", n.hand(no), -1);
        }
        DUE.is("without w: above", n.hand(0), 0);
        DUE.is("without w: below", n.hand(1), 1);
        DUE.is("without SLIDES: above", new SlideNight().hand(0), 0);
        DUE.is("without SLIDES: below", new SlideNight().hand(1), 1);
    }

    private static void handWithoutCommonDivisor() {
        DUE.by("Promise 30", "what 0 above, 1 below the line, without a common divisor");
        SlideNight n = Due.withSlides(2);
        String[] laws = {"w2(1=1)", "w3(q=1);w6(q+m=0)", "w9(q+m=0)", "w9(q=2)", "w1(i=0&q+m<2);w5(i=1&q=0)"};
        // 7/8 twice; 6/12 twice; none; surely both; 2/3 (of WAYS 0, 1 and 4) and 1/2.
        long[][] due = {{7, 4}, {1, 1}, {0, 1}, {2, 1}, {7, 6}};
        for (int k = 0; k < laws.length; k++) {
            Due.law(n, laws[k]);
            DUE.is(laws[k] + " above", n.hand(0), due[k][0]);
            DUE.is(laws[k] + " below", n.hand(1), due[k][1]);
        }
    }

    private static void handLowestSix() {
        DUE.by("Part 3", "how many of the lowest 6 told SLIDES that have a w above 0 are WRONG on the mean by w");
        for (int slides = 1; slides <= 9; slides++) {
            SlideNight n = Due.withSlides(slides);
            Due.law(n, "w1(1=1)");
            int above = 7 * Math.min(slides, 6);
            int divisor = above % 8 == 0 ? 8 : above % 4 == 0 ? 4 : above % 2 == 0 ? 2 : 1;
            DUE.is("above of " + slides, n.hand(0), above / divisor);
            DUE.is("below of " + slides, n.hand(1), 8 / divisor);
        }
        SlideNight n = Due.withSlides(10);
        n.gone(1);
        // 0 is without w, 1 is gone: the lowest six are 2 to 7; 8 and 9 would be WRONG surely.
        Due.law(n, "w0(i=0);w1(i>7&q=1);w0(i>7);w1(q+m=0)");
        DUE.is("none of the six", n.hand(0), 0);
        n.gone(7);
        DUE.is("8 takes the place of 7", n.hand(0), 1);
        n.gone(6);
        DUE.is("and 9 that of 6", n.hand(0), 2);
        SlideNight most = Due.withSlides(6);
        Due.law(most, "w97(q+m=0);w99(1=1)");
        // 693 of 790 each.
        DUE.is("large ones above", most.hand(0), 6 * 693 / 2);
        DUE.is("large ones below", most.hand(1), 395);
    }

    private static void checkBounds() {
        DUE.by("Promise 35", "-2: no such ones");
        SlideNight n = Due.withSlides(1);
        Due.feed(n, Due.UNLIKE);
        for (int no : Due.beyond(0, 25)) {
            DUE.is("check(0, " + no + ")", n.check(0, no), -2);
        }
        for (int i : NOT_TOLD) {
            DUE.is("check(" + i + ", 0)", n.check(i, 0), -2);
            DUE.is("check(" + i + ", 25)", n.check(i, 25), -2);
        }
        DUE.is("the tape stays", n.count(5), 40);
        DUE.is("check(0, 25)", n.check(0, 25), -1);
    }

    private static void checkTapeTooShort() {
        DUE.by("Promise 35", "it has not so many (the tape stays)");
        SlideNight n = Due.withSlides(1);
        DUE.is("one of an empty tape", n.check(0, 1), -2);
        DUE.is("none of an empty tape", n.check(0, 0), -1);
        Due.feed(n, Due.UNLIKE.substring(0, 20));
        DUE.is("21 of 20 bytes", n.check(0, 21), -2);
        DUE.is("the tape stays", n.count(5), 20);
        DUE.is("20 of 20 bytes", n.check(0, 20), -1);
        DUE.is("the tape is empty", n.count(5), 0);
    }

    private static void checkPlaces() {
        DUE.by("Promise 35", "(0 to 25; empty then): NONE: right; else the place of the first one that is not so");
        SlideNight n = Due.withSlides(1);
        for (int k = 0; k < 25; k++) {
            char[] signs = Due.UNLIKE.toCharArray();
            signs[k] = 'x';
            signs[24] = 'x';
            Due.feed(n, new String(signs));
            DUE.is("the first", n.check(0, 25), k);
            DUE.is("the tape is empty", n.count(5), 0);
            Due.feed(n, new String(signs));
            DUE.is("ahead of it", n.check(0, k), -1);
            DUE.is("the tape is empty", n.count(5), 0);
        }
        for (int sign : new int[] {0, 46 + 128, 255}) {
            Due.feed(n, 'a', 'b', sign);
            DUE.is("another sign", n.check(0, 3), 2);
        }
    }
}
