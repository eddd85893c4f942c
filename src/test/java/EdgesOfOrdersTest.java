/** Promises 24 to 26 and 28: each sentence about a bound, none at all, like ones, or what is refused. */
public final class EdgesOfOrdersTest {
    private static final Due DUE = new Due();
    private static final int[] TWELVE = {0, 1, 2, 3, 4, 5, 6, 7, 8, 9, 10, 11};

    public static void main(String[] args) {
        spiltBounds();
        spiltTapeTooShort();
        spiltTwoToTwelve();
        spiltHowMany();
        spiltNoOrder();
        spiltNoSuchSlides();
        spiltOneTwice();
        spiltNoSuchPlace();
        spiltLeastRow();
        saysBounds();
        saysTapeTooShort();
        saysAheadOfAnother();
        saysNoneSaysMore();
        saysNoSuchSlides();
        saysNotAmongThem();
        saysLooksAtNoTwo();
        saysLowestTwo();
        shadowBounds();
        shadowFromTheNorth();
        shadowAllAround();
        leftOutBounds();
        leftOutNotAbove();
        leftOutOfNone();
        leftOutEachOnce();
        leftOutTwelve();
        leftOutLeastBits();
        leftOutLinks();
        DUE.end();
    }

    private static long spilt(SlideNight n, int what, int... slides) {
        Due.feed(n, slides);
        return n.spilt(slides.length, what);
    }

    private static long says(SlideNight n, int i, int j, int what, int... slides) {
        Due.feed(n, slides);
        return n.says(slides.length, i, j, what);
    }

    private static void spiltBounds() {
        DUE.by("Promise 24", "NONE also: no such n");
        SlideNight n = Due.withSlides(14);
        Due.feed(n, 0, 1, 2, 3, 4, 5, 6, 7, 8, 9, 10, 11, 12, 13);
        for (int no : Due.beyond(2, 12)) {
            DUE.is("spilt(" + no + ", -1)", n.spilt(no, -1), -1);
            DUE.is("spilt(" + no + ", 0)", n.spilt(no, 0), -1);
        }
        DUE.is("spilt(0, -1)", n.spilt(0, -1), -1);
        DUE.is("the tape stays", n.count(5), 20);
        DUE.is("two of them", n.spilt(2, 1), 1);
        DUE.is("the tape is empty", n.count(5), 0);
    }

    private static void spiltTapeTooShort() {
        DUE.by("Promise 24", "it has not so many (the tape stays)");
        SlideNight n = Due.withSlides(12);
        DUE.is("two of an empty tape", n.spilt(2, -1), -1);
        DUE.is("twelve of an empty tape", n.spilt(12, 0), -1);
        DUE.is("bytes", n.count(5), 0);
        // What comes onto the tape comes by twenties, which are enough for twelve.
        Due.feed(n, TWELVE);
        DUE.is("twelve of twenty", n.spilt(12, -1), 479001600);
        DUE.is("none is left", n.spilt(2, -1), -1);
    }

    private static void spiltTwoToTwelve() {
        DUE.by("Promise 24", "SPILT by the first n bytes of the tape (SLIDES; n 2 to 12; empty then)");
        DUE.by("Part 3", "SPILT are told SLIDES (2 to 12)");
        long all = 1;
        for (int many = 2; many <= 12; many++) {
            all *= many;
            SlideNight n = Due.withSlides(12);
            Due.feed(n, TWELVE);
            DUE.is("orders of " + many, n.spilt(many, -1), all);
            DUE.is("the tape is empty", n.count(5), 0);
            Due.feed(n, TWELVE);
            DUE.is("the last of " + many, n.spilt(many, many - 1), many - 1);
        }
        SlideNight n = Due.withSlides(32);
        DUE.is("0 and 31", spilt(n, 0, 31, 0), 0);
        DUE.is("0 and 31", spilt(n, 1, 31, 0), 31);
    }

    private static void spiltHowMany() {
        DUE.by("Promise 24", "what NONE how many orders, else the SLIDE at place what of the first");
        SlideNight n = Due.withSlides(2);
        DUE.is("NONE", spilt(n, SlideNight.NONE, 1, 0), 2);
        DUE.is("place 0", spilt(n, 0, 1, 0), 0);
        DUE.is("place 1", spilt(n, 1, 1, 0), 1);
        n.clue(1, 0);
        DUE.is("NONE", spilt(n, SlideNight.NONE, 1, 0), 1);
        DUE.is("place 0", spilt(n, 0, 1, 0), 1);
        DUE.is("place 1", spilt(n, 1, 1, 0), 0);
    }

    private static void spiltNoOrder() {
        DUE.by("Promise 24", "-2: there is none");
        SlideNight n = Due.withSlides(3);
        n.clue(0, 1);
        n.clue(1, 2);
        n.clue(2, 0);
        for (int place = -2; place <= 3; place++) {
            if (place != -1) {
                DUE.is("at place " + place, spilt(n, place, 0, 1, 2), -2);
            }
        }
        DUE.is("none is 0 of them", spilt(n, -1, 0, 1, 2), 0);
        DUE.is("two of them have one", spilt(n, -1, 0, 2), 1);
        DUE.is("two of them have one", spilt(n, 0, 0, 2), 2);
        n.clue(1, 0);
        DUE.is("both ahead of one another", spilt(n, 0, 0, 1), -2);
    }

    private static void spiltNoSuchSlides() {
        DUE.by("Promise 24", "no such SLIDES");
        SlideNight n = Due.withSlides(4);
        n.gone(2);
        for (int no : new int[] {2, 4, 31, 32, 33, 64, 128, 255}) {
            for (int what = -2; what < 3; what++) {
                DUE.is("with " + no + " last", spilt(n, what, 0, 1, no), -2);
                DUE.is("the tape is empty", n.count(5), 0);
                DUE.is("with " + no + " first", spilt(n, what, no, 1, 0), -2);
            }
        }
        DUE.is("those behind are not looked at", spilt(n, -1, 0, 1, 3), 6);
        Due.feed(n, 0, 1, 99);
        DUE.is("those behind are not looked at", n.spilt(2, -1), 2);
    }

    private static void spiltOneTwice() {
        DUE.by("Promise 24", "one twice");
        SlideNight n = Due.withSlides(32);
        for (int what = -2; what < 3; what++) {
            DUE.is("side by side", spilt(n, what, 5, 5), -2);
            DUE.is("the tape is empty", n.count(5), 0);
            DUE.is("first and last", spilt(n, what, 31, 0, 31), -2);
            DUE.is("twelve", spilt(n, what, 0, 1, 2, 3, 4, 5, 6, 7, 8, 9, 10, 0), -2);
        }
    }

    private static void spiltNoSuchPlace() {
        DUE.by("Promise 24", "-3: no such place");
        SlideNight n = Due.withSlides(12);
        for (int many = 2; many <= 12; many++) {
            for (int no : new int[] {-2, many, many + 1, Integer.MIN_VALUE, Integer.MAX_VALUE}) {
                Due.feed(n, TWELVE);
                DUE.is("place " + no + " of " + many, n.spilt(many, no), -3);
                DUE.is("the tape is empty", n.count(5), 0);
            }
        }
    }

    private static void spiltLeastRow() {
        DUE.by("Part 3", "orders that fit: how many; the first (least row)");
        SlideNight n = Due.withSlides(32);
        n.clue(31, 0);
        n.clue(31, 0);
        int[] due = {1, 2, 31, 0};
        for (int place = 0; place < 4; place++) {
            DUE.is("at place " + place, spilt(n, place, 0, 31, 2, 1), due[place]);
        }
        DUE.is("one told twice says as much as once", spilt(n, -1, 0, 31, 2, 1), 12);
        n.clue(5, 1);
        DUE.is("one of others says nothing", spilt(n, -1, 0, 31, 2, 1), 12);
        n.clue(2, 0);
        DUE.is("two ahead of one", spilt(n, -1, 0, 31, 2, 1), 8);
        n.clue(2, 31);
        DUE.is("one ahead of two", spilt(n, -1, 0, 31, 2, 1), 4);
    }

    private static void saysBounds() {
        DUE.by("Promise 25", "NONE: no such ones");
        SlideNight n = Due.withSlides(14);
        Due.feed(n, 0, 1, 2, 3, 4, 5, 6, 7, 8, 9, 10, 11, 12, 13);
        for (int no : Due.beyond(2, 12)) {
            DUE.is("says(" + no + ", 0, 1, 0)", n.says(no, 0, 1, 0), -1);
            DUE.is("says(" + no + ", 0, 1, 3)", n.says(no, 0, 1, 3), -1);
        }
        for (int no : Due.beyond(0, 3)) {
            DUE.is("says(2, 0, 1, " + no + ")", n.says(2, 0, 1, no), -1);
        }
        DUE.is("the tape stays", n.count(5), 20);
        DUE.is("two of them", n.says(2, 0, 1, 3), 1);
        DUE.is("the tape is empty", n.count(5), 0);
    }

    private static void saysTapeTooShort() {
        DUE.by("Promise 25", "it has not so many (the tape stays)");
        SlideNight n = Due.withSlides(12);
        for (int what = 0; what < 4; what++) {
            DUE.is("two of an empty tape", n.says(2, 0, 1, what), -1);
            DUE.is("twelve of an empty tape", n.says(12, 0, 1, what), -1);
        }
        DUE.is("twelve of twenty", says(n, 0, 11, 0, TWELVE), 239500800);
        DUE.is("none is left", n.says(2, 0, 1, 0), -1);
    }

    private static void saysAheadOfAnother() {
        DUE.by("Promise 25", "how many orders have SLIDE i ahead of SLIDE j (what 0)");
        SlideNight n = Due.withSlides(3);
        DUE.is("half of them", says(n, 2, 0, 0, 0, 1, 2), 3);
        n.clue(0, 1);
        n.clue(1, 2);
        DUE.is("all of them", says(n, 0, 2, 0, 0, 1, 2), 1);
        DUE.is("all of them, by a CLUE of both", says(n, 0, 1, 0, 0, 1, 2), 1);
        DUE.is("none of them", says(n, 2, 0, 0, 0, 1, 2), 0);
        n.clue(2, 0);
        DUE.is("no order", says(n, 0, 2, 0, 0, 1, 2), 0);
        DUE.is("what was asked is no CLUE then", n.count(7), 3);
    }

    private static void saysNoneSaysMore() {
        DUE.by("Promise 25", "-2: none says more");
        SlideNight n = Due.withSlides(3);
        n.clue(0, 1);
        n.clue(1, 2);
        for (int what = 1; what <= 3; what++) {
            DUE.is("one order", says(n, 0, 0, what, 0, 1, 2), -2);
            DUE.is("the tape is empty", n.count(5), 0);
        }
        n.clue(2, 0);
        for (int what = 1; what <= 3; what++) {
            DUE.is("no order", says(n, 0, 0, what, 0, 1, 2), -2);
        }
    }

    private static void saysNoSuchSlides() {
        DUE.by("Promise 25", "no such SLIDES, one twice");
        SlideNight n = Due.withSlides(4);
        n.gone(2);
        for (int what = 0; what < 4; what++) {
            for (int no : new int[] {2, 4, 31, 32, 64, 128, 255}) {
                DUE.is("with " + no, says(n, 0, 1, what, 0, 1, no), -2);
                DUE.is("the tape is empty", n.count(5), 0);
                DUE.is("ahead of -3", says(n, 9, 9, what, 0, 1, no), -2);
            }
            DUE.is("one twice", says(n, 0, 1, what, 0, 1, 0), -2);
            DUE.is("one twice", says(n, 9, 9, what, 3, 3), -2);
        }
    }

    private static void saysNotAmongThem() {
        DUE.by("Promise 25", "-3: i, j are not among them, the same");
        SlideNight n = Due.withSlides(5);
        for (int no : new int[] {-1, 2, 3, 4, 5, 31, 32, 64, Integer.MIN_VALUE, Integer.MAX_VALUE}) {
            DUE.is("says(" + no + ", 0)", says(n, no, 0, 0, 1, 0), -3);
            DUE.is("the tape is empty", n.count(5), 0);
            DUE.is("says(1, " + no + ")", says(n, 1, no, 0, 1, 0), -3);
            DUE.is("both not", says(n, no, no, 0, 1, 0), -3);
        }
        DUE.is("the same", says(n, 0, 0, 0, 1, 0), -3);
        DUE.is("the same", says(n, 1, 1, 0, 1, 0), -3);
    }

    private static void saysLooksAtNoTwo() {
        DUE.by("Promise 25", "(i, j are not looked at then)");
        SlideNight n = Due.withSlides(3);
        int[] due = {0, 0, 1, 1};
        for (int what = 1; what <= 3; what++) {
            for (int no : new int[] {-1, 0, 2, 32, Integer.MIN_VALUE, Integer.MAX_VALUE}) {
                DUE.is("what " + what, says(n, no, no, what, 1, 0), due[what]);
            }
        }
    }

    private static void saysLowestTwo() {
        DUE.by("Part 3", "two of them (by numbers) for which the lesser of both is most; of like ones the lowest two");
        SlideNight n = Due.withSlides(32);
        DUE.is("the lower of all", says(n, 0, 0, 1, 31, 7, 30, 6), 6);
        DUE.is("the higher of all", says(n, 0, 0, 2, 31, 7, 30, 6), 7);
        DUE.is("the lesser of all", says(n, 0, 0, 3, 31, 7, 30, 6), 12);
        n.clue(7, 6);
        DUE.is("the lower", says(n, 0, 0, 1, 31, 7, 30, 6), 30);
        DUE.is("the higher", says(n, 0, 0, 2, 31, 7, 30, 6), 31);
        DUE.is("the lesser", says(n, 0, 0, 3, 31, 7, 30, 6), 6);
        DUE.is("the lesser of twelve", says(Due.withSlides(12), 0, 0, 3, TWELVE), 239500800);
    }

    private static void shadowBounds() {
        DUE.by("Part 3", "a picture looks north, east, south or west (0 to 3); the shadow falls to the left, the "
            + "right, towards one, away (0 to 3)");
        DUE.by("Promise 26", "NONE: no such ones");
        SlideNight n = new SlideNight();
        for (int no : Due.beyond(0, 3)) {
            DUE.is("shadow(" + no + ", 0, 0)", n.shadow(no, 0, 0), -1);
            DUE.is("shadow(0, " + no + ", 0)", n.shadow(0, no, 0), -1);
        }
        for (int no : Due.beyond(0, 2)) {
            DUE.is("shadow(0, 0, " + no + ")", n.shadow(0, 0, no), -1);
        }
    }

    private static void shadowFromTheNorth() {
        DUE.by("Part 3", "a northern one is none");
        SlideNight n = new SlideNight();
        // It looks north, the shadow comes towards one; east, it falls to the right; south, away; west, to the left.
        int[][] northern = {{0, 2}, {1, 1}, {2, 3}, {3, 0}};
        for (int[] s : northern) {
            DUE.is("as it is SHOWN", n.shadow(s[0], s[1], 0), 0);
        }
        DUE.is("mirrored, towards one stays", n.shadow(0, 2, 2), 0);
        DUE.is("mirrored, away stays", n.shadow(2, 3, 2), 0);
        DUE.is("mirrored, the right is the left", n.shadow(1, 1, 1), 2);
        DUE.is("bits of both", n.shadow(1, 1, 2), 2);
    }

    private static void shadowAllAround() {
        DUE.by("Part 3", "morning is an eastern sun, noon a southern one, evening a western one (1, 2, 4");
        SlideNight n = new SlideNight();
        int[] byCompass = {0, 1, 2, 4};
        // Quarters to the right from where it looks, to the left, the right, towards one, away.
        int[] quarters = {3, 1, 2, 0};
        int[] mirrored = {1, 0, 2, 3};
        for (int looks = 0; looks < 4; looks++) {
            for (int falls = 0; falls < 4; falls++) {
                int shown = byCompass[(looks + quarters[falls] + 2) % 4];
                int other = byCompass[(looks + quarters[mirrored[falls]] + 2) % 4];
                DUE.is("as it is SHOWN", n.shadow(looks, falls, 0), shown);
                DUE.is("if it is mirrored", n.shadow(looks, falls, 1), other);
                DUE.is("bits of both", n.shadow(looks, falls, 2), shown | other);
            }
        }
    }

    private static void leftOutBounds() {
        DUE.by("Promise 28", "NONE: no such ones");
        DUE.by("Promise 28", "LEFT OUT by seconds (0 to 9999)");
        SlideNight n = Due.withSlides(2);
        Due.tray(n, "1");
        for (int no : Due.beyond(0, 9999)) {
            DUE.is("leftOut(" + no + ", 0)", n.leftOut(no, 0), -1);
        }
        for (int no : Due.beyond(0, 2)) {
            DUE.is("leftOut(0, " + no + ")", n.leftOut(0, no), -1);
        }
        DUE.is("leftOut(0, 0)", n.leftOut(0, 0), 1);
        DUE.is("leftOut(9999, 2)", n.leftOut(9999, 2), 0);
    }

    private static void leftOutNotAbove() {
        DUE.by("Part 3", "so that s (o 0) of each together is not above told seconds");
        SlideNight n = Due.withSlides(4);
        Due.tray(n, "3,2,1");
        Due.law(n, "s99+o(1=1)");
        int[] worth = {0, 3, 5, 6};
        for (int many = 1; many <= 3; many++) {
            DUE.is("a second less", n.leftOut(99 * many - 1, 0), worth[many - 1]);
            DUE.is("as many", n.leftOut(99 * many, 0), worth[many]);
            DUE.is("seconds", n.leftOut(99 * many, 2), 99 * many);
            DUE.is("one more", n.leftOut(99 * many + 1, 0), worth[many]);
        }
        DUE.is("none", n.leftOut(0, 1), 0);
        Due.law(n, "s0+o*50(1=1)");
        DUE.is("o is 0 of each", n.leftOut(0, 0), 6);
    }

    private static void leftOutOfNone() {
        DUE.by("Promise 28", "what 0 WORTH, 1 which are shown (bits among the lowest 12 SLIDES of THE TRAY), 2 "
            + "seconds");
        SlideNight n = Due.withSlides(3);
        Due.law(n, "s1(1=1)");
        for (int what = 0; what < 3; what++) {
            DUE.is("without a TRAY", n.leftOut(9999, what), 0);
        }
        Due.tray(n, "7-9");
        for (int what = 0; what < 3; what++) {
            DUE.is("with none that is told", n.leftOut(9999, what), 0);
        }
        Due.tray(n, "0");
        for (int what = 0; what < 3; what++) {
            DUE.is("with one that is worth nothing", n.leftOut(9999, what), 0);
        }
        Due.tray(n, "2,9,1");
        DUE.is("without one that is not told", n.leftOut(9999, 1), 3);
        DUE.is("the lowest bit the lowest one", n.leftOut(1, 1), 2);
    }

    private static void leftOutEachOnce() {
        DUE.by("Part 3", "of told SLIDES of THE TRAY (each once, 12 at most, by numbers)");
        SlideNight n = Due.withSlides(6);
        Due.law(n, "s10(1=1)");
        Due.tray(n, "(5)9,4,5,(4,5)9");
        DUE.is("WORTH", n.leftOut(9999, 0), 4 + 5);
        DUE.is("which", n.leftOut(9999, 1), 3);
        DUE.is("seconds", n.leftOut(9999, 2), 20);
    }

    private static void leftOutTwelve() {
        DUE.by("Part 3", "(each once, 12 at most, by numbers)");
        for (int many = 11; many <= 14; many++) {
            SlideNight n = Due.withSlides(20);
            Due.tray(n, 2 + many + "-3");
            Due.law(n, "s1(1=1)");
            int taken = Math.min(many, 12);
            int worth = 0;
            for (int i = 3; i < 3 + taken; i++) {
                worth += i;
            }
            DUE.is("WORTH of " + many, n.leftOut(9999, 0), worth);
            DUE.is("which of " + many, n.leftOut(9999, 1), (1 << taken) - 1);
            DUE.is("seconds of " + many, n.leftOut(9999, 2), taken);
            n.gone(3);
            DUE.is("which, with 3 gone, of " + many, n.leftOut(9999, 1), (1 << Math.min(many - 1, 12)) - 1);
        }
    }

    private static void leftOutLeastBits() {
        DUE.by("Part 3", "(which must be among these); of like ones the least bits by their numbers");
        SlideNight n = new SlideNight();
        int[] worths = {5, 5, 10, 5, 0};
        for (int i = 0; i < 5; i++) {
            Due.slide(n, i, Due.UNLIKE, 0, 0, worths[i]);
        }
        Due.tray(n, "4-0");
        Due.law(n, "s2(i=2);s1(1=1)");
        DUE.is("any of three", n.leftOut(1, 1), 1);
        DUE.is("0 and 1, as 2", n.leftOut(2, 1), 3);
        DUE.is("0, 1 and 3, as 2 with one", n.leftOut(3, 1), 5);
        DUE.is("without the one that is worth nothing", n.leftOut(9999, 1), 15);
    }

    private static void leftOutLinks() {
        DUE.by("Part 3", "the second one only with the first one (which must be among these)");
        SlideNight n = Due.withSlides(20);
        Due.law(n, "s1(1=1)");
        Due.tray(n, "1-3");
        n.link(1, 3);
        DUE.is("3 only with 1", n.leftOut(1, 0), 2);
        DUE.is("3 with 1", n.leftOut(2, 0), 4);
        DUE.is("1 without 3", n.leftOut(9999, 0), 6);
        Due.tray(n, "2,3");
        DUE.is("1 is not in THE TRAY", n.leftOut(9999, 0), 2);
        Due.tray(n, "3,1");
        DUE.is("1 is in THE TRAY", n.leftOut(9999, 0), 4);
        n.link(3, 1);
        DUE.is("both with one another", n.leftOut(1, 0), 0);
        DUE.is("both with one another", n.leftOut(2, 0), 4);
        n.link(19, 1);
        n.link(2, 4);
        n.link(2, 4);
        n.link(5, 4);
        Due.tray(n, "2,4,5");
        DUE.is("4 with both", n.leftOut(9999, 0), 11);
        DUE.is("4 not with one alone", n.leftOut(2, 0), 7);
        Due.tray(n, "1-19");
        // 19 is not among the lowest twelve.
        DUE.is("neither 1 nor 3", n.leftOut(9999, 1), 4095 - 1 - 4);
    }
}
