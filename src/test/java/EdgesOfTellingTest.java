/** Promises 1 to 8, 20, 23, 27, 32 to 34, 36: each sentence about a bound, what is empty, full or refused. */
public final class EdgesOfTellingTest {
    private static final Due DUE = new Due();

    public static void main(String[] args) {
        constant();
        newObject();
        newObjectsShareNothing();
        calls();
        fullTape();
        highestByteFirst();
        slideNumbers();
        slideAtFirst();
        slideTapeTooShort();
        slideSigns();
        slideEmptiesTape();
        slideInPlace();
        putBounds();
        dayBounds();
        goneBounds();
        goneTakesAlong();
        lookerBounds();
        lookerInPlace();
        lampBounds();
        sureBounds();
        sureInPlace();
        clueBounds();
        clueOneTwice();
        cluesFull();
        linkBounds();
        linkOneTwice();
        linksFull();
        seedBounds();
        keepOfNothing();
        undoWithoutKeep();
        undoAsKeptLast();
        undoBringsAllBack();
        undoLeavesTexts();
        countOfOthers();
        countOfLookers();
        DUE.end();
    }

    private static void constant() {
        DUE.by("Part 3", "The constants: `NONE = -1`: There is none.");
        DUE.is("NONE", SlideNight.NONE, -1);
    }

    private static void newObject() {
        DUE.by("Promise 1", "No SLIDES, LOOKERS, TRAY, LAW; a LAMP; THE SEED 1.");
        SlideNight n = new SlideNight();
        for (int i = 0; i < 32; i++) {
            DUE.is("SLIDE " + i, n.slideIs(i, 0), -1);
        }
        DUE.is("SLIDES", n.count(0), 0);
        DUE.is("LOOKERS", n.count(1), 0);
        DUE.is("LAMPS", n.count(2), 1);
        DUE.is("SLIDES of THE TRAY", n.count(3), 0);
        DUE.is("CLAUSES", n.count(4), 0);
        DUE.is("bytes of the tape", n.count(5), 0);
        DUE.is("X", n.count(6), 1);
        DUE.is("CLUES", n.count(7), 0);
        DUE.is("SURE SLIDES", n.count(8), 0);
        DUE.is("LINKS", n.count(9), 0);
        DUE.is("WRONG ones", n.count(30), 0);
        for (int l = 0; l < 8; l++) {
            DUE.is("EYES of " + l, n.count(10 + l), -1);
            DUE.is("PATIENCE of " + l, n.count(20 + l), -1);
        }
        Due.slide(n, 0, Due.UNLIKE, 0, 0, 0);
        n.put(0, 1);
        DUE.is("an evening without a TRAY", n.evening(), 0);
        Due.tray(n, "0");
        DUE.is("an evening without a LAW", n.tried(0), 0);
        DUE.is("it is shown", n.tried(1), 1);
        DUE.is("no LOOKERS", n.tried(6), 0);
    }

    private static void newObjectsShareNothing() {
        DUE.by("Promise 1", "No SLIDES, LOOKERS, TRAY, LAW");
        SlideNight n = Due.withSlides(3);
        n.looker(1, 1, 1);
        n.lamps(9);
        n.seed(5);
        n.clue(0, 1);
        n.link(0, 1);
        n.sure(0, 1);
        Due.tray(n, "0-2");
        Due.law(n, "s1(1=1)");
        n.feed(1, 2, 3, 4, 5);
        n.keep();
        SlideNight other = new SlideNight();
        int[] due = {0, 0, 1, 0, 0, 0, 1, 0, 0, 0};
        for (int what = 0; what < due.length; what++) {
            DUE.is("another object: count(" + what + ")", other.count(what), due[what]);
        }
        DUE.is("another object: undo()", other.undo(), false);
    }

    private static void calls() {
        DUE.by("What it is", "An object is used for at most 512 calls after it has been made");
        SlideNight n = new SlideNight();
        for (int call = 1; call <= 511; call++) {
            n.seed(call);
        }
        DUE.is("call 512", n.count(6), 511);
    }

    private static void fullTape() {
        DUE.by("Promise 2", "NONE if that would be more than 260");
        SlideNight n = new SlideNight();
        for (int k = 1; k <= 13; k++) {
            DUE.is("feed " + k, n.feed(0x61616161, 0x61616161, 0x61616161, 0x61616161, 0x61616161), 20 * k);
        }
        for (int k = 0; k < 2; k++) {
            DUE.is("one more", n.feed(0x62626262, 0x62626262, 0x62626262, 0x62626262, 0x62626262), -1);
            DUE.is("bytes", n.count(5), 260);
        }
        DUE.is("slide", n.slide(0, 0, 0, 0), true);
        for (int k = 0; k < 25; k++) {
            DUE.is("a refused one is not on the tape", n.shown(0, k % 5, k / 5), 'a');
        }
        DUE.is("an empty one has room again", n.feed(0, 0, 0, 0, 0), 20);
    }

    private static void highestByteFirst() {
        DUE.by("Promise 2", "Twenty bytes come behind the tape, the highest of each int first: how many it has");
        SlideNight n = new SlideNight();
        n.feed(0x61626364, 0x65666768, 0x696a6b6c, 0x6d6e6f70, 0x71727374);
        n.feed(0x75767778, 0x79ffffff, -1, -1, -1);
        DUE.is("slide", n.slide(0, 0, 0, 0), true);
        for (int k = 0; k < 25; k++) {
            DUE.is("byte " + k, n.shown(0, k % 5, k / 5), 'a' + k);
        }
        n.feed(0x80000000, 0, 0, 0, 0);
        DUE.is("a byte above 127 is none below", n.check(0, 1), 0);
    }

    private static void slideNumbers() {
        DUE.by("Promise 3", "false: no such ones");
        DUE.by("Terms", "SLIDES 0 to 31: told or not");
        DUE.by("Terms", "a WORTH (0 to 99)");
        DUE.by("Terms", "a KIND (0 to 3), a MAKER (0 to 3)");
        int[][] bounds = {{0, 31}, {0, 3}, {0, 3}, {0, 99}};
        for (int which = 0; which < 4; which++) {
            for (int bound : bounds[which]) {
                SlideNight n = new SlideNight();
                Due.feed(n, Due.UNLIKE);
                int[] v = {7, 1, 2, 50};
                v[which] = bound;
                DUE.is("at a bound", n.slide(v[0], v[1], v[2], v[3]), true);
                DUE.is("KIND", n.slideIs(v[0], 4), v[1]);
                DUE.is("MAKER", n.slideIs(v[0], 5), v[2]);
                DUE.is("WORTH", n.slideIs(v[0], 6), v[3]);
            }
            for (int no : Due.beyond(bounds[which][0], bounds[which][1])) {
                SlideNight n = new SlideNight();
                Due.feed(n, Due.UNLIKE);
                int[] v = {7, 1, 2, 50};
                v[which] = no;
                DUE.is("beyond", n.slide(v[0], v[1], v[2], v[3]), false);
                DUE.is("no SLIDE", n.count(0), 0);
                DUE.is("the tape stays", n.count(5), 40);
            }
        }
    }

    private static void slideAtFirst() {
        DUE.by("Terms", "the WAY it is IN (0 at first: the right one)");
        for (int i = 0; i < 32; i++) {
            SlideNight n = new SlideNight();
            Due.slide(n, i, Due.UNLIKE, 0, 0, 0);
            DUE.is("IN", n.slideIs(i, 0), 0);
            DUE.is("WRONG", n.slideIs(i, 1), 0);
            DUE.is("told ones", n.count(0), 1);
        }
    }

    private static void slideTapeTooShort() {
        DUE.by("Promise 3", "it has not so many (the tape stays)");
        SlideNight n = new SlideNight();
        DUE.is("an empty tape", n.slide(0, 0, 0, 0), false);
        Due.feed(n, Due.UNLIKE.substring(0, 20));
        DUE.is("20 bytes", n.slide(0, 0, 0, 0), false);
        DUE.is("bytes", n.count(5), 20);
        DUE.is("no SLIDE", n.count(0), 0);
        Due.feed(n, Due.UNLIKE.substring(20));
        DUE.is("40 bytes", n.slide(0, 0, 0, 0), true);
        DUE.is("those from before", n.shown(0, 1, 0), 'b');
    }

    private static void slideSigns() {
        DUE.by("Promise 3", "another sign");
        DUE.by("Terms", "a PICTURE of 5 by 5 signs (a to z, or a dot, 46)");
        for (int sign = 0; sign < 256; sign++) {
            int place = sign % 25;
            int[] bytes = new int[25];
            for (int k = 0; k < 25; k++) {
                bytes[k] = k == place ? sign : '.';
            }
            SlideNight n = new SlideNight();
            Due.feed(n, bytes);
            boolean isSign = sign == 46 || sign >= 'a' && sign <= 'z';
            DUE.is("sign " + sign, n.slide(0, 0, 0, 0), isSign);
            DUE.is("SLIDES", n.count(0), isSign ? 1 : 0);
            DUE.is("the tape is empty", n.count(5), 0);
        }
        for (int place = 0; place < 25; place++) {
            SlideNight n = Due.withSlides(1);
            char[] signs = Due.PLAIN.toCharArray();
            signs[place] = 'A';
            DUE.is("at place " + place, Due.slide(n, 0, new String(signs), 3, 3, 99), false);
            DUE.is("the one before stays: sign", n.shown(0, 0, 0), 'a');
            DUE.is("the one before stays: WORTH", n.slideIs(0, 6), 0);
        }
    }

    private static void slideEmptiesTape() {
        DUE.by("Promise 3", "A SLIDE's PICTURE by the first 25 bytes of the tape (row by row; empty then)");
        SlideNight n = new SlideNight();
        Due.feed(n, "abcdefghijklmnopqrstuvwxy" + "A".repeat(235));
        DUE.is("bytes", n.count(5), 260);
        DUE.is("those behind are not looked at", n.slide(31, 0, 0, 0), true);
        DUE.is("the tape is empty", n.count(5), 0);
        DUE.is("the end of a row", n.shown(31, 4, 0), 'e');
        DUE.is("the next row", n.shown(31, 0, 1), 'f');
        DUE.is("the last one", n.shown(31, 4, 4), 'y');
    }

    private static void slideInPlace() {
        DUE.by("Promise 3", "in place of the one before (IN WAY 0, DAY 0)");
        SlideNight n = Due.withSlides(1);
        n.put(0, 7);
        n.day(0, 99);
        DUE.is("told again", Due.slide(n, 0, Due.CORNER, 3, 2, 98), true);
        int[] due = {0, 0, 129, 4, 3, 2, 98, 0};
        for (int what = 0; what < due.length; what++) {
            DUE.is("slideIs(0, " + what + ")", n.slideIs(0, what), due[what]);
        }
        DUE.is("the sign beside the corner", n.shown(0, 1, 0), '.');
        DUE.is("one SLIDE", n.count(0), 1);
        Due.slide(n, 0, Due.PLAIN, 0, 0, 0);
        DUE.is("ALIKE by all", n.slideIs(0, 2), 255);
        Due.slide(n, 0, Due.UNLIKE, 0, 0, 0);
        DUE.is("ALIKE by none of those before", n.slideIs(0, 2), 1);
    }

    /** Slides 0 and 31 are told, 5 is gone, the others never were. */
    private static SlideNight firstAndLast() {
        SlideNight n = new SlideNight();
        for (int i : new int[] {0, 5, 31}) {
            Due.slide(n, i, Due.UNLIKE, 0, 0, 0);
        }
        n.gone(5);
        return n;
    }

    private static final int[] NOT_TOLD = {-1, 1, 5, 30, 32, 33, 63, 64, 256, Integer.MIN_VALUE, Integer.MAX_VALUE};

    private static void putBounds() {
        DUE.by("Promise 4", "false: no such ones");
        DUE.by("Terms", "WAYS 0 to 7");
        SlideNight n = firstAndLast();
        DUE.is("put(0, 0)", n.put(0, 0), true);
        DUE.is("put(31, 7)", n.put(31, 7), true);
        for (int way : Due.beyond(0, 7)) {
            DUE.is("put(31, " + way + ")", n.put(31, way), false);
            DUE.is("IN", n.slideIs(31, 0), 7);
        }
        for (int i : NOT_TOLD) {
            DUE.is("put(" + i + ", 1)", n.put(i, 1), false);
        }
        DUE.is("IN", n.slideIs(0, 0), 0);
    }

    private static void dayBounds() {
        DUE.by("Promise 5", "false: no such ones");
        DUE.by("Terms", "a DAY (0 to 99; 0 at first)");
        SlideNight n = firstAndLast();
        DUE.is("at first", n.slideIs(31, 7), 0);
        DUE.is("day(31, 99)", n.day(31, 99), true);
        for (int day : Due.beyond(0, 99)) {
            DUE.is("day(31, " + day + ")", n.day(31, day), false);
            DUE.is("DAY", n.slideIs(31, 7), 99);
        }
        DUE.is("day(31, 0)", n.day(31, 0), true);
        DUE.is("DAY", n.slideIs(31, 7), 0);
        for (int i : NOT_TOLD) {
            DUE.is("day(" + i + ", 1)", n.day(i, 1), false);
        }
    }

    private static void goneBounds() {
        DUE.by("Promise 6", "false: no such one");
        SlideNight n = firstAndLast();
        for (int i : NOT_TOLD) {
            DUE.is("gone(" + i + ")", n.gone(i), false);
            DUE.is("SLIDES", n.count(0), 2);
        }
        DUE.is("gone(31)", n.gone(31), true);
        DUE.is("gone(31) again", n.gone(31), false);
        DUE.is("gone(0)", n.gone(0), true);
        DUE.is("SLIDES", n.count(0), 0);
    }

    private static void goneTakesAlong() {
        DUE.by("Promise 6", "A told SLIDE is gone (CLUES, SURE ones and LINKS with it, too)");
        SlideNight n = Due.withSlides(4);
        n.put(1, 3);
        n.day(1, 9);
        n.sure(1, 2);
        n.sure(2, 3);
        n.clue(1, 0);
        n.clue(2, 1);
        n.clue(3, 2);
        n.link(1, 0);
        n.link(2, 1);
        n.link(3, 2);
        DUE.is("gone(1)", n.gone(1), true);
        DUE.is("CLUES", n.count(7), 1);
        DUE.is("SURE ones", n.count(8), 1);
        DUE.is("LINKS", n.count(9), 1);
        DUE.is("the SURE one that is left", n.dots(0, -1), 1 << 3);
        Due.slide(n, 1, Due.UNLIKE, 0, 0, 50);
        DUE.is("told again it is IN WAY 0", n.slideIs(1, 0), 0);
        DUE.is("told again its DAY is 0", n.slideIs(1, 7), 0);
        DUE.is("told again it is no SURE one", n.count(8), 1);
        Due.feed(n, 0, 1, 2, 3);
        DUE.is("the CLUE that is left", n.spilt(4, -1), 12);
        Due.feed(n, 0, 1, 2, 3);
        DUE.is("the CLUE that is left", n.says(4, 2, 3, 0), 0);
        Due.tray(n, "1,2");
        DUE.is("the LINK that is left", n.leftOut(9999, 0), 50);
    }

    private static void lookerBounds() {
        DUE.by("Promise 7", "false: no such ones");
        DUE.by("Terms", "LOOKERS 0 to 7: told or not; EYES (0 to 9), PATIENCE (0 to 9999 seconds");
        SlideNight n = new SlideNight();
        DUE.is("looker(0, 0, 0)", n.looker(0, 0, 0), true);
        DUE.is("looker(7, 9, 9999)", n.looker(7, 9, 9999), true);
        for (int no : Due.beyond(0, 7)) {
            DUE.is("looker(" + no + ", 1, 1)", n.looker(no, 1, 1), false);
        }
        for (int no : Due.beyond(0, 9)) {
            DUE.is("looker(0, " + no + ", 1)", n.looker(0, no, 1), false);
        }
        for (int no : Due.beyond(0, 9999)) {
            DUE.is("looker(0, 1, " + no + ")", n.looker(0, 1, no), false);
        }
        DUE.is("LOOKERS", n.count(1), 1 | 1 << 7);
        DUE.is("EYES of 0", n.count(10), 0);
        DUE.is("PATIENCE of 0", n.count(20), 0);
        DUE.is("EYES of 7", n.count(17), 9);
        DUE.is("PATIENCE of 7", n.count(27), 9999);
    }

    private static void lookerInPlace() {
        DUE.by("Promise 7", "A LOOKER (in place of the one before)");
        SlideNight n = new SlideNight();
        n.looker(3, 9, 9999);
        n.looker(3, 0, 1);
        DUE.is("LOOKERS", n.count(1), 8);
        DUE.is("EYES", n.count(13), 0);
        DUE.is("PATIENCE", n.count(23), 1);
    }

    private static void lampBounds() {
        DUE.by("Promise 8", "false: no such number");
        DUE.by("Terms", "LAMPS that are left (0 to 9; 1 at first)");
        SlideNight n = new SlideNight();
        DUE.is("at first", n.count(2), 1);
        for (int lamps : new int[] {0, 9}) {
            DUE.is("lamps(" + lamps + ")", n.lamps(lamps), true);
            for (int no : Due.beyond(0, 9)) {
                DUE.is("lamps(" + no + ")", n.lamps(no), false);
                DUE.is("LAMPS", n.count(2), lamps);
            }
        }
    }

    private static void sureBounds() {
        DUE.by("Promise 20", "false: no such ones");
        SlideNight n = firstAndLast();
        for (int i : NOT_TOLD) {
            DUE.is("sure(" + i + ", 0)", n.sure(i, 0), false);
        }
        for (int corner : Due.beyond(0, 3)) {
            DUE.is("sure(0, " + corner + ")", n.sure(0, corner), false);
        }
        DUE.is("SURE SLIDES", n.count(8), 0);
        DUE.is("sure(0, 0)", n.sure(0, 0), true);
        DUE.is("sure(31, 3)", n.sure(31, 3), true);
        DUE.is("SURE SLIDES", n.count(8), 2);
    }

    private static void sureInPlace() {
        DUE.by("Promise 20", "A SURE SLIDE with its dot SHOWN in a corner (in place of what was told of it)");
        SlideNight n = Due.withSlides(1);
        for (int corner = 0; corner < 4; corner++) {
            DUE.is("sure", n.sure(0, corner), true);
            DUE.is("the corner that was told last", n.dots(0, -1), 1 << corner);
            DUE.is("one SURE SLIDE", n.count(8), 1);
        }
    }

    private static void clueBounds() {
        DUE.by("Promise 23", "NONE: no such ones");
        SlideNight n = firstAndLast();
        for (int i : NOT_TOLD) {
            DUE.is("clue(" + i + ", 0)", n.clue(i, 0), -1);
            DUE.is("clue(0, " + i + ")", n.clue(0, i), -1);
        }
        DUE.is("CLUES", n.count(7), 0);
        DUE.is("clue(0, 31)", n.clue(0, 31), 1);
        DUE.is("clue(31, 0)", n.clue(31, 0), 2);
    }

    private static void clueOneTwice() {
        DUE.by("Promise 23", "one twice");
        SlideNight n = firstAndLast();
        DUE.is("clue(0, 0)", n.clue(0, 0), -1);
        DUE.is("clue(31, 31)", n.clue(31, 31), -1);
        DUE.is("CLUES", n.count(7), 0);
    }

    private static void cluesFull() {
        DUE.by("Promise 23", "24 are there");
        DUE.by("Part 3", "CLUES say of two of them which was ahead (24 at most)");
        SlideNight n = Due.withSlides(26);
        for (int k = 0; k < 24; k++) {
            DUE.is("CLUE " + k, n.clue(k, k + 1), k + 1);
        }
        for (int k = 0; k < 2; k++) {
            DUE.is("one more", n.clue(25, 0), -1);
            DUE.is("CLUES", n.count(7), 24);
        }
        Due.feed(n, 0, 25);
        DUE.is("a refused one says nothing", n.spilt(2, -1), 2);
        Due.feed(n, 24, 23);
        DUE.is("the last one is there", n.spilt(2, 0), 23);
        n.gone(0);
        DUE.is("there is room again", n.clue(25, 24), 24);
        DUE.is("and full again", n.clue(25, 24), -1);
    }

    private static void linkBounds() {
        DUE.by("Promise 27", "NONE: no such ones");
        SlideNight n = firstAndLast();
        for (int i : NOT_TOLD) {
            DUE.is("link(" + i + ", 0)", n.link(i, 0), -1);
            DUE.is("link(0, " + i + ")", n.link(0, i), -1);
        }
        DUE.is("LINKS", n.count(9), 0);
        DUE.is("link(0, 31)", n.link(0, 31), 1);
        DUE.is("link(31, 0)", n.link(31, 0), 2);
    }

    private static void linkOneTwice() {
        DUE.by("Promise 27", "one twice");
        SlideNight n = firstAndLast();
        DUE.is("link(0, 0)", n.link(0, 0), -1);
        DUE.is("link(31, 31)", n.link(31, 31), -1);
        DUE.is("LINKS", n.count(9), 0);
    }

    private static void linksFull() {
        DUE.by("Promise 27", "12 are there");
        DUE.by("Part 3", "each told LINK (two SLIDES, 12 at most)");
        SlideNight n = Due.withSlides(20);
        for (int k = 0; k < 12; k++) {
            DUE.is("LINK " + k, n.link(k + 1, k), k + 1);
        }
        for (int k = 0; k < 2; k++) {
            DUE.is("one more", n.link(0, 19), -1);
            DUE.is("LINKS", n.count(9), 12);
        }
        Due.tray(n, "19");
        DUE.is("a refused one binds nothing", n.leftOut(9999, 0), 19);
        Due.tray(n, "11");
        DUE.is("the last one is there", n.leftOut(9999, 0), 0);
        n.gone(12);
        DUE.is("the last one is gone", n.leftOut(9999, 0), 11);
        DUE.is("there is room again", n.link(0, 19), 12);
        DUE.is("and full again", n.link(0, 19), -1);
    }

    private static void seedBounds() {
        DUE.by("Promise 32", "THE SEED (0 to 65535; X, too): true; false: no such number");
        SlideNight n = Due.withSlides(1);
        for (int seed : new int[] {0, 65535}) {
            DUE.is("seed(" + seed + ")", n.seed(seed), true);
            DUE.is("X", n.count(6), seed);
            for (int no : Due.beyond(0, 65535)) {
                DUE.is("seed(" + no + ")", n.seed(no), false);
                DUE.is("X", n.count(6), seed);
            }
        }
        Due.tray(n, "0");
        n.evening();
        DUE.is("X goes on from it", n.count(6), (25173 * 65535 + 13849) % 65536);
    }

    private static void keepOfNothing() {
        DUE.by("Promise 33", "KEPT: how many SLIDES are told");
        SlideNight n = new SlideNight();
        DUE.is("none", n.keep(), 0);
        Due.slide(n, 31, Due.UNLIKE, 0, 0, 0);
        n.lamps(0);
        n.looker(0, 0, 0);
        DUE.is("undo()", n.undo(), true);
        DUE.is("SLIDES", n.count(0), 0);
        DUE.is("LAMPS", n.count(2), 1);
        DUE.is("LOOKERS", n.count(1), 0);
        DUE.is("all", Due.withSlides(32).keep(), 32);
        SlideNight some = Due.withSlides(3);
        some.gone(1);
        DUE.is("without one that is gone", some.keep(), 2);
    }

    private static void undoWithoutKeep() {
        DUE.by("Promise 34", "false: none was KEPT");
        SlideNight n = Due.withSlides(2);
        n.put(1, 5);
        n.lamps(4);
        n.seed(9);
        DUE.is("undo()", n.undo(), false);
        DUE.is("SLIDES", n.count(0), 2);
        DUE.is("IN", n.slideIs(1, 0), 5);
        DUE.is("LAMPS", n.count(2), 4);
        DUE.is("X", n.count(6), 9);
    }

    private static void undoAsKeptLast() {
        DUE.by("Part 3", "KEPT: SLIDES, LOOKERS, LAMPS, CLUES, SURE ones, LINKS, X; UNDONE: as they were KEPT last");
        SlideNight n = Due.withSlides(1);
        n.keep();
        n.put(0, 3);
        n.keep();
        for (int way = 4; way < 8; way++) {
            n.put(0, way);
            DUE.is("undo()", n.undo(), true);
            DUE.is("as KEPT last, once more, too", n.slideIs(0, 0), 3);
        }
        n.gone(0);
        n.undo();
        DUE.is("one that was gone", n.slideIs(0, 0), 3);
        Due.slide(n, 1, Due.UNLIKE, 0, 0, 0);
        n.undo();
        DUE.is("one that was not told", n.slideIs(1, 0), -1);
    }

    private static void undoBringsAllBack() {
        DUE.by("Part 3", "KEPT: SLIDES, LOOKERS, LAMPS, CLUES, SURE ones, LINKS, X");
        SlideNight n = new SlideNight();
        Due.slide(n, 0, Due.HALF, 1, 2, 33);
        Due.slide(n, 1, Due.UNLIKE, 1, 2, 44);
        n.put(0, 3);
        n.day(0, 55);
        n.sure(0, 1);
        n.looker(2, 3, 4);
        n.lamps(6);
        n.clue(1, 0);
        n.link(1, 0);
        n.seed(77);
        n.keep();
        Due.slide(n, 0, Due.CORNER, 0, 0, 0);
        n.sure(0, 3);
        n.sure(1, 3);
        n.looker(2, 0, 0);
        n.looker(3, 0, 0);
        n.lamps(0);
        n.gone(1);
        Due.slide(n, 1, Due.UNLIKE, 0, 0, 0);
        n.clue(0, 1);
        n.clue(0, 1);
        n.link(0, 1);
        n.link(0, 1);
        n.seed(0);
        DUE.is("undo()", n.undo(), true);
        int[] slide = {3, 1, 5, 4, 1, 2, 33, 55};
        for (int what = 0; what < slide.length; what++) {
            DUE.is("SLIDE: slideIs(0, " + what + ")", n.slideIs(0, what), slide[what]);
        }
        DUE.is("SLIDE: its sign", n.shown(0, 0, 3), 'b');
        DUE.is("SLIDE: MAKER of the other one", n.slideIs(1, 5), 2);
        DUE.is("LOOKERS", n.count(1), 4);
        DUE.is("EYES", n.count(12), 3);
        DUE.is("PATIENCE", n.count(22), 4);
        DUE.is("LAMPS", n.count(2), 6);
        DUE.is("X", n.count(6), 77);
        DUE.is("CLUES", n.count(7), 1);
        DUE.is("SURE ones", n.count(8), 1);
        DUE.is("SURE ones: corners", n.dots(2, -1), 1 << 2);
        DUE.is("LINKS", n.count(9), 1);
        Due.feed(n, 0, 1);
        DUE.is("CLUES: the first", n.spilt(2, 0), 1);
        Due.tray(n, "0,1");
        Due.law(n, "s1(1=1)");
        n.put(1, 1);
        DUE.is("LINKS: 0 only with 1", n.leftOut(1, 1), 2);
    }

    private static void undoLeavesTexts() {
        DUE.by("Promise 34", "UNDONE: true");
        SlideNight n = Due.withSlides(1);
        Due.tray(n, "0");
        Due.law(n, "s1(1=1)");
        n.keep();
        Due.tray(n, "0,0");
        Due.law(n, "s2(1=1);t1(1=1)");
        Due.feed(n, "abc");
        DUE.is("undo()", n.undo(), true);
        DUE.is("THE TRAY stays", n.count(3), 2);
        DUE.is("THE LAW stays", n.count(4), 2);
        DUE.is("the tape stays", n.count(5), 20);
        DUE.is("seconds", n.tried(0), 4);
    }

    private static void countOfOthers() {
        DUE.by("Promise 36", "NONE for others");
        SlideNight n = Due.withSlides(1);
        for (int l = 0; l < 8; l++) {
            n.looker(l, 1, 1);
        }
        for (int what : new int[] {-1, -2, 18, 19, 28, 29, 31, 32, 40, 256, Integer.MIN_VALUE, Integer.MAX_VALUE}) {
            DUE.is("count(" + what + ")", n.count(what), -1);
        }
    }

    private static void countOfLookers() {
        DUE.by("Promise 36", "10 + l EYES, 20 + l PATIENCE of told LOOKER l");
        for (int l = 0; l < 8; l++) {
            SlideNight n = new SlideNight();
            n.looker(l, l + 1, 100 + l);
            DUE.is("LOOKERS", n.count(1), 1 << l);
            for (int k = 0; k < 8; k++) {
                DUE.is("EYES of " + k, n.count(10 + k), k == l ? l + 1 : -1);
                DUE.is("PATIENCE of " + k, n.count(20 + k), k == l ? 100 + l : -1);
            }
        }
    }
}
