import java.util.ArrayList;
import java.util.List;

/** Promises 9 and 10: each sentence about the bounds of both texts, their FAULTS, and what is refused. */
public final class EdgesOfTextsTest {
    private static final Due DUE = new Due();
    private static final String DIGITS = "0123456789";
    /** Stands for the end of the text, where that can be. */
    private static final String END = "\u0100";

    public static void main(String[] args) {
        trayLengths();
        trayTapeTooShort();
        trayFirstBytesAlone();
        trayEmptiesTape();
        trayStaysBehindFault();
        trayBlanks();
        trayNumbers();
        trayRows();
        trayRounds();
        traySixty();
        trayWhatCantStand();
        trayNumberAbove();
        trayFifthOpen();
        traySixtyFirst();
        trayFirstFromTheLeft();
        lawLengths();
        lawTapeTooShort();
        lawFirstBytesAlone();
        lawEmptiesTape();
        lawStaysBehindFault();
        lawAfterLaw();
        lawBlanks();
        lawWhatCantStand();
        lawSixthDigit();
        lawSeventeenth();
        lawSeventhOpen();
        lawOpenOfTheClause();
        lawNotIsOpenTillItsPieceEnds();
        lawSumStandsAhead();
        lawFirstFromTheLeft();
        DUE.end();
    }

    private static void trayIs(String text, int due) {
        DUE.is("tray " + text, Due.tray(new SlideNight(), text), due);
    }

    private static void lawIs(String text, int due) {
        DUE.is("law " + text, Due.law(new SlideNight(), text), due);
    }

    // ---- THE TRAY ----

    /** Sixty SLIDES in so many bytes, from 119 on. */
    private static String longTray(int bytes) {
        return "0".repeat(bytes - 118) + ",0".repeat(59);
    }

    private static void trayLengths() {
        DUE.by("Promise 9", "THE TRAY by the first n bytes of the tape (1 to 120");
        DUE.by("Promise 9", "NONE: no such n");
        DUE.by("Terms", "THE TRAY: a TEXT of at most 120 bytes");
        trayIs("7", 1);
        trayIs(longTray(119), 60);
        trayIs(longTray(120), 60);
        SlideNight n = new SlideNight();
        Due.tray(n, "7");
        Due.feed(n, "1".repeat(140));
        for (int no : Due.beyond(1, 120)) {
            DUE.is("tray(" + no + ")", n.tray(no), -1);
            DUE.is("the tape stays", n.count(5), 140);
            DUE.is("the one before stays", n.inTray(0), 7);
        }
        DUE.is("tray(1)", n.tray(1), 1);
    }

    private static void trayTapeTooShort() {
        DUE.by("Promise 9", "it has not so many (the tape stays)");
        SlideNight n = new SlideNight();
        DUE.is("an empty tape", n.tray(1), -1);
        Due.feed(n, "12,3");
        DUE.is("21 of 20 bytes", n.tray(21), -1);
        DUE.is("120 of 20 bytes", n.tray(120), -1);
        DUE.is("the tape stays", n.count(5), 20);
        DUE.is("no TRAY", n.count(3), 0);
        DUE.is("four of them", n.tray(4), 2);
        SlideNight full = new SlideNight();
        Due.feed(full, "1,2,3,4,5,6,7,8,9,10");
        DUE.is("20 of 20 bytes", full.tray(20), 10);
    }

    /** Of each beginning of a text, though the rest of it is on the tape. */
    private static void beginningsAre(boolean isTray, String text, int... due) {
        for (int bytes = 1; bytes <= due.length; bytes++) {
            SlideNight n = new SlideNight();
            Due.feed(n, text);
            int answer = isTray ? n.tray(bytes) : n.law(bytes);
            DUE.is(bytes + " bytes of " + text, answer, due[bytes - 1]);
        }
    }

    private static void trayFirstBytesAlone() {
        DUE.by("Promise 9", "THE TRAY by the first n bytes of the tape");
        beginningsAre(true, "12,3-4,(5)24", 1, 1, -1003, 2, -1005, 3, -1007, -1008, -1009, -1010, 5, -1011);
        beginningsAre(true, "329", 1, -3000, -3000);
        beginningsAre(true, "(((((", -1001, -1002, -1003, -1004, -5004);
        beginningsAre(true, "0-31,0-28", 1, -1002, 4, 32, -1005, 33, -1007, 35, -6005);
        SlideNight n = new SlideNight();
        Due.feed(n, "19-7");
        DUE.is("one byte", n.tray(1), 1);
        DUE.is("its SLIDE", n.inTray(0), 1);
    }

    private static void trayEmptiesTape() {
        DUE.by("Promise 9", "empty then), in place of the one before: how many SLIDES");
        SlideNight n = new SlideNight();
        Due.feed(n, "5,6" + "x".repeat(217));
        DUE.is("tray(3)", n.tray(3), 2);
        DUE.is("those behind are gone, too", n.count(5), 0);
        Due.feed(n, "x".repeat(40));
        DUE.is("a FAULT", n.tray(1), -1000);
        DUE.is("empty behind a FAULT, too", n.count(5), 0);
        DUE.is("another one", Due.tray(n, "9"), 1);
        DUE.is("in place: SLIDES", n.count(3), 1);
        DUE.is("in place: the first", n.inTray(0), 9);
        DUE.is("in place: behind it", n.inTray(1), -1);
    }

    private static void trayStaysBehindFault() {
        DUE.by("Promise 9", "a FAULT: -1000 times its number, less its place (the one before stays)");
        SlideNight n = new SlideNight();
        Due.tray(n, "3,1,2");
        String[] faulty = {"9,8,", "9,8,32", "9,8,(((((", "9,8,(0-31)2"};
        int[] due = {-1004, -3004, -5008, -6004};
        for (int k = 0; k < faulty.length; k++) {
            DUE.is("tray " + faulty[k], Due.tray(n, faulty[k]), due[k]);
            DUE.is("SLIDES", n.count(3), 3);
            DUE.is("at 0", n.inTray(0), 3);
            DUE.is("at 1", n.inTray(1), 1);
            DUE.is("at 2", n.inTray(2), 2);
            DUE.is("behind", n.inTray(3), -1);
        }
        SlideNight none = new SlideNight();
        Due.tray(none, "9,8,");
        DUE.is("none before", none.count(3), 0);
        DUE.is("none before", none.inTray(0), -1);
    }

    private static void trayBlanks() {
        DUE.by("Terms", "THE TRAY: a TEXT of at most 120 bytes, no blanks (none at first)");
        trayIs(" 1", -1000);
        trayIs("1 ", -1001);
        trayIs("1, 2", -1002);
        trayIs("1 -2", -1001);
        trayIs("( 1)2", -1001);
        trayIs("(1) 2", -1003);
        DUE.is("none at first", new SlideNight().count(3), 0);
    }

    private static void trayNumbers() {
        DUE.by("Terms", "a SLIDE's number (0 to 31, one or two digits)");
        for (int i = 0; i < 100; i++) {
            SlideNight n = new SlideNight();
            DUE.is("tray " + i, Due.tray(n, "" + i), i < 32 ? 1 : -3000);
            DUE.is("tray " + i, n.inTray(0), i < 32 ? i : -1);
            String two = "" + i / 10 + i % 10;
            DUE.is("tray " + two, Due.tray(n, two), i < 32 ? 1 : -3000);
            DUE.is("tray " + two, n.inTray(0), i < 32 ? i : -1);
        }
        trayIs("000", -1002);
        trayIs("031", -1002);
    }

    private static void trayRows() {
        DUE.by("Terms", "one, -, and another one: all from the first to the second, up or down");
        for (int first = 0; first < 32; first++) {
            for (int last : new int[] {0, 1, first, 30, 31}) {
                SlideNight n = new SlideNight();
                int many = Math.abs(first - last) + 1;
                DUE.is("tray " + first + "-" + last, Due.tray(n, first + "-" + last), many);
                DUE.is("its first", n.inTray(0), first);
                DUE.is("its last", n.inTray(many - 1), last);
                DUE.is("behind it", n.inTray(many), -1);
            }
        }
        SlideNight down = new SlideNight();
        Due.tray(down, "31-0");
        for (int k = 0; k < 32; k++) {
            DUE.is("down at " + k, down.inTray(k), 31 - k);
        }
    }

    private static void trayRounds() {
        DUE.by("Terms", "(ITEMS) and a digit 2 to 9: all of them so many times");
        for (int times = 0; times < 10; times++) {
            SlideNight n = new SlideNight();
            int due = times < 2 ? -1003 : times;
            DUE.is("tray (7)" + times, Due.tray(n, "(7)" + times), due);
            for (int k = 0; k < 10; k++) {
                DUE.is("tray (7)" + times + " at " + k, n.inTray(k), k < due ? 7 : -1);
            }
        }
    }

    private static void traySixty() {
        DUE.by("Terms", "60 SLIDES at most, one behind the other");
        trayIs("0-31,0-27", 60);
        trayIs("0-31,0-28", -6005);
        trayIs("(0-9)6", 60);
        trayIs("(0-9)7", -6000);
        trayIs("(0-5,(7)4)6", 60);
        trayIs("((0-9)3)2", 60);
        SlideNight n = new SlideNight();
        Due.tray(n, "0-31,27-0");
        for (int k = 0; k < 60; k++) {
            DUE.is("at " + k, n.inTray(k), k < 32 ? k : 59 - k);
        }
        DUE.is("at 60", n.inTray(60), -1);
    }

    private static boolean isFaultAt(int answer, int place) {
        return answer == -1000 - place;
    }

    /** Behind a text that can stand there: which of all signs, or the end, FAULT 1 is told of. */
    private static void canStand(boolean isTray, String text, String signs) {
        for (int sign = 0; sign <= 256; sign++) {
            String whole = sign == 256 ? text : text + (char) sign;
            if (whole.isEmpty()) {
                continue;
            }
            SlideNight n = new SlideNight();
            int answer = isTray ? Due.tray(n, whole) : Due.law(n, whole);
            boolean stands = signs.indexOf(sign) >= 0;
            DUE.is("FAULT 1 behind " + text + " by sign " + sign, isFaultAt(answer, text.length()), !stands);
        }
    }

    private static void trayWhatCantStand() {
        DUE.by("Terms", "1 what can't stand there (the end, too); 3 a number above 31");
        canStand(true, "", DIGITS + "(");
        canStand(true, "1", DIGITS + "-," + END);
        canStand(true, "12", "-," + END);
        canStand(true, "1-", DIGITS);
        canStand(true, "1-2", DIGITS + "," + END);
        canStand(true, "1-12", "," + END);
        canStand(true, "1,", DIGITS + "(");
        canStand(true, "1,2", DIGITS + "-," + END);
        canStand(true, "(", DIGITS + "(");
        canStand(true, "(1", DIGITS + "-,)");
        canStand(true, "(12", "-,)");
        canStand(true, "(1-2", DIGITS + ",)");
        canStand(true, "(1-12", ",)");
        canStand(true, "(1,", DIGITS + "(");
        canStand(true, "(1)", "23456789");
        canStand(true, "(1)2", "," + END);
        canStand(true, "(1)2,", DIGITS + "(");
        canStand(true, "((1)2", ",)");
        canStand(true, "((1)2)", "23456789");
        canStand(true, "((((", DIGITS + "(");
    }

    private static void trayNumberAbove() {
        DUE.by("Terms", "3 a number above 31, at its first digit (asked when its digits end, behind two at the "
            + "latest)");
        trayIs("32", -3000);
        trayIs("32,1", -3000);
        trayIs("320", -3000);
        trayIs("32x", -3000);
        trayIs("99", -3000);
        trayIs("311", -1002);
        trayIs("31x", -1002);
        trayIs("1,32", -3002);
        trayIs("1-32", -3002);
        trayIs("32-1", -3000);
        trayIs("1-320", -3002);
        trayIs("(1,2,32)2", -3005);
        trayIs("4,x", -1002);
        trayIs("4x", -1001);
    }

    private static void trayFifthOpen() {
        DUE.by("Terms", "5 a fifth ( that is open in another one, at it; 6 more than 60 SLIDES");
        trayIs("((((1)2)2)2)2", 16);
        trayIs("(((((1)2)2)2)2)2", -5004);
        trayIs("(((((", -5004);
        trayIs("((((((", -5004);
        trayIs("((((", -1004);
        trayIs("1,((((2,(", -5008);
        trayIs("((((1)2,(2)2)2)2)2", 32);
        trayIs("(1)2,(1)2,(1)2,(1)2,(1)2,(1)2", 12);
        trayIs("((((1)2,(2)2,((3", -5014);
    }

    private static void traySixtyFirst() {
        DUE.by("Terms", "6 more than 60 SLIDES, at the first byte of the ITEM by which they are (asked when it ends; "
            + "of an inner one first)");
        trayIs("0-31,0-27,5", -6010);
        trayIs("0-31,0-27,05", -6010);
        trayIs("0-31,0-27,5-6", -6010);
        trayIs("0-31,0-27,(5)2", -6011);
        trayIs("0-31,0-26,(5)2", -6010);
        trayIs("(0-31,0-31)2", -6006);
        trayIs("((0-31)2,1)2", -6001);
        trayIs("(1,(0-9)6)2", -6003);
        trayIs("1,((0-9)2)3", -6002);
        // Asked when it ends: what can't stand in it comes first.
        trayIs("0-31,0-28x", -6005);
        trayIs("0-31,0-x", -1007);
        trayIs("0-31,0-32", -3007);
        trayIs("(0-31)2", -6000);
        trayIs("(0-31)1", -1006);
        trayIs("(0-31)", -1006);
    }

    private static void trayFirstFromTheLeft() {
        DUE.by("Terms", "SLIDES at most, one behind the other. FAULTS, the first from the left");
        trayIs("x,32,(((((,0-31,0-31", -1000);
        trayIs("32,x", -3000);
        trayIs("(((((,32", -5004);
        trayIs("0-31,0-31,x", -6005);
        trayIs("0-31,x,0-31", -1005);
        trayIs("1,32,(((((", -3002);
        trayIs("((((32,(((((", -3004);
    }

    // ---- THE LAW ----

    private static String longLaw(int bytes) {
        String tail = "(1=1)";
        return "w" + "1+".repeat((bytes - 7) / 2) + "1".repeat(2 - bytes % 2) + tail;
    }

    private static void lawLengths() {
        DUE.by("Promise 10", "THE LAW by the first n bytes of the tape (1 to 240");
        DUE.by("Promise 10", "NONE: no such n");
        DUE.by("Terms", "THE LAW: a TEXT of at most 240 bytes");
        lawIs("s", -1001);
        DUE.is("a length", longLaw(239).length(), 239);
        DUE.is("a length", longLaw(240).length(), 240);
        lawIs(longLaw(239), 1);
        lawIs(longLaw(240), 1);
        SlideNight n = new SlideNight();
        Due.law(n, "s1(1=1);t1(1=1)");
        Due.feed(n, longLaw(240) + ";");
        for (int no : Due.beyond(1, 240)) {
            DUE.is("law(" + no + ")", n.law(no), -1);
            DUE.is("the tape stays", n.count(5), 260);
            DUE.is("the one before stays", n.count(4), 2);
        }
        DUE.is("law(240)", n.law(240), 1);
    }

    private static void lawTapeTooShort() {
        DUE.by("Promise 10", "it has not so many (the tape stays)");
        SlideNight n = new SlideNight();
        DUE.is("an empty tape", n.law(1), -1);
        Due.feed(n, "s1(1=1);t1(1=1);x(1=");
        DUE.is("21 of 20 bytes", n.law(21), -1);
        DUE.is("240 of 20 bytes", n.law(240), -1);
        DUE.is("the tape stays", n.count(5), 20);
        DUE.is("no LAW", n.count(4), 0);
        DUE.is("15 of them", n.law(15), 2);
        Due.feed(n, "s1(1=1);t1(1=1);x(1=");
        DUE.is("20 of 20 bytes", n.law(20), -1017);
    }

    private static void lawFirstBytesAlone() {
        DUE.by("Promise 10", "THE LAW by the first n bytes of the tape");
        beginningsAre(false, "w1+i(q=0|m<1);s12(1=1)", -1001, -1002, -1003, -1004, -1005, -1006, -1007, -1008, -1009,
            -1010, -1011, -1012, 1, -1014, -1015, -1016, -1017, -1018, -1019, -1020, -1021, 2);
        beginningsAre(false, "w123456", -1001, -1002, -1003, -1004, -1005, -1006, -2006);
        SlideNight n = Due.withSlides(1);
        Due.tray(n, "0");
        Due.feed(n, "s5(1=1);");
        DUE.is("seven bytes", n.law(7), 1);
        DUE.is("seconds", n.tried(0), 5);
    }

    private static void lawEmptiesTape() {
        DUE.by("Promise 10", "empty then), in place of the one before: how many CLAUSES");
        SlideNight n = Due.withSlides(1);
        Due.tray(n, "0");
        Due.feed(n, "s5(1=1);s6(1=1)" + "x".repeat(205));
        DUE.is("law(7)", n.law(7), 1);
        DUE.is("those behind are gone, too", n.count(5), 0);
        DUE.is("seconds", n.tried(0), 5);
        DUE.is("a FAULT", Due.law(n, "x".repeat(40)), -1001);
        DUE.is("empty behind a FAULT, too", n.count(5), 0);
        DUE.is("another one", Due.law(n, "x0(1=1);s7(1=1)"), 2);
        DUE.is("in place: CLAUSES", n.count(4), 2);
        DUE.is("in place: seconds", n.tried(0), 7);
        DUE.is("without s", Due.law(n, "t7(1=1)"), 1);
        DUE.is("in place: seconds", n.tried(0), 0);
    }

    private static void lawStaysBehindFault() {
        DUE.by("Promise 10", "a FAULT: as above (the one before stays)");
        SlideNight n = Due.withSlides(1);
        Due.tray(n, "0");
        Due.law(n, "s5(1=1);t9(1=1)");
        String sixteen = "s6(1=1);".repeat(16);
        String[] faulty = {"s6(1=1);", "s6(1=1);s123456", sixteen + "s", "s6(1=1);s[[[[[[["};
        int[] due = {-1008, -2014, -4128, -5015};
        for (int k = 0; k < faulty.length; k++) {
            DUE.is("law " + faulty[k], Due.law(n, faulty[k]), due[k]);
            DUE.is("CLAUSES", n.count(4), 2);
            DUE.is("seconds", n.tried(0), 5);
        }
        SlideNight none = new SlideNight();
        Due.law(none, "s6(1=1);");
        DUE.is("none before", none.count(4), 0);
    }

    private static void lawAfterLaw() {
        DUE.by("Promise 10", "in place of the one before");
        SlideNight n = Due.withSlides(1);
        Due.tray(n, "0");
        for (int k = 0; k < 12; k++) {
            DUE.is("the longest", Due.law(n, longLaw(240)), 1);
            DUE.is("a late FAULT", Due.law(n, longLaw(239) + ";"), -1240);
            DUE.is("another one", Due.law(n, "s" + (k + 1) + "(1=1)"), 1);
            DUE.is("seconds", n.tried(0), k + 1);
        }
    }

    private static void lawBlanks() {
        DUE.by("Terms", "THE LAW: a TEXT of at most 240 bytes, no blanks (none at first)");
        lawIs(" w1(1=1)", -1000);
        lawIs("w 1(1=1)", -1001);
        lawIs("w1 (1=1)", -1002);
        lawIs("w1( 1=1)", -1003);
        lawIs("w1(1 =1)", -1004);
        lawIs("w1(1= 1)", -1005);
        lawIs("w1(1=1 )", -1006);
        lawIs("w1(1=1) ", -1007);
        lawIs("w1(1=1); n1(1=1)", -1008);
        DUE.is("none at first", new SlideNight().count(4), 0);
    }

    private static void lawWhatCantStand() {
        DUE.by("Terms", "1 what can't stand there (the end, too); 2 a sixth digit");
        String letters = "wnstjxpb";
        String factor = DIGITS + "ikayqmovlez[";
        String piece = factor + "!(";
        String with = "+-*/%";
        canStand(false, "", letters);
        for (char letter : letters.toCharArray()) {
            canStand(false, "" + letter, factor);
        }
        canStand(false, "w1", DIGITS + with + "(");
        canStand(false, "w12345", DIGITS + with + "(");
        canStand(false, "wi", with + "(");
        for (char sign : with.toCharArray()) {
            canStand(false, "w1" + sign, factor);
        }
        canStand(false, "w[", factor);
        canStand(false, "w[1", DIGITS + with + "]");
        canStand(false, "w[[z]", with + "]");
        canStand(false, "w[1]", with + "(");
        canStand(false, "w1(", piece);
        canStand(false, "w1(1", DIGITS + with + "<>=");
        canStand(false, "w1(i", with + "<>=");
        canStand(false, "w1([1", DIGITS + with + "]");
        canStand(false, "w1([1]", with + "<>=");
        canStand(false, "w1(1=", factor);
        canStand(false, "w1(1<", factor);
        canStand(false, "w1(1>", factor);
        canStand(false, "w1(1=1", DIGITS + with + "&|)");
        canStand(false, "w1(1=i", with + "&|)");
        canStand(false, "w1(1=[1]", with + "&|)");
        canStand(false, "w1(!", piece);
        canStand(false, "w1((", piece);
        canStand(false, "w1(!1", DIGITS + with + "<>=");
        canStand(false, "w1(!1=1", DIGITS + with + "&|)");
        canStand(false, "w1((1=1", DIGITS + with + "&|)");
        canStand(false, "w1((1=1)", "&|)");
        canStand(false, "w1(!(1=1)", "&|)");
        canStand(false, "w1(1=1&", piece);
        canStand(false, "w1(1=1|", piece);
        canStand(false, "w1(1=1)", ";" + END);
        canStand(false, "w1(1=1);", letters);
        canStand(false, "w1(1=1);n", factor);
        canStand(false, "w1(!!!!!", piece);
        canStand(false, "w[[[[[[", factor);
    }

    private static void lawSixthDigit() {
        DUE.by("Terms", "2 a sixth digit, at it");
        DUE.by("Terms", "a number of one to five digits");
        lawIs("w12345(1=1)", 1);
        lawIs("w99999+00000(99999=00000)", 1);
        for (int digits = 1; digits <= 8; digits++) {
            String number = "7".repeat(digits);
            boolean isFault = digits > 5;
            lawIs("w" + number + "(1=1)", isFault ? -2006 : 1);
            lawIs("w[" + number + "](1=1)", isFault ? -2007 : 1);
            lawIs("wi+" + number + "(1=1)", isFault ? -2008 : 1);
            lawIs("wi(" + number + "=1)", isFault ? -2008 : 1);
            lawIs("wi(i=" + number + ")", isFault ? -2010 : 1);
            lawIs("wi(i=i&!" + number + "<i)", isFault ? -2013 : 1);
        }
        lawIs("w000000(1=1)", -2006);
        lawIs("w000001", -2006);
    }

    private static void lawSeventeenth() {
        DUE.by("Terms", "4 a 17th CLAUSE, at its letter (if that can stand there)");
        DUE.by("Terms", "CLAUSES (16 at most)");
        for (int clauses = 1; clauses <= 18; clauses++) {
            lawIs("w1(1=1)" + ";w1(1=1)".repeat(clauses - 1), clauses <= 16 ? clauses : -4128);
        }
        String sixteen = "w1(1=1)" + ";w1(1=1)".repeat(15);
        for (int sign = 0; sign < 256; sign++) {
            boolean isLetter = "wnstjxpb".indexOf(sign) >= 0;
            lawIs(sixteen + ";" + (char) sign, isLetter ? -4128 : -1128);
        }
        lawIs(sixteen + ";", -1128);
        lawIs(sixteen + ";w123456", -4128);
    }

    /** All texts of so many of ( and !, with [ behind them. */
    private static List<String> opened(int many) {
        List<String> texts = new ArrayList<>(List.of(""));
        for (int k = 0; k < many; k++) {
            List<String> longer = new ArrayList<>();
            for (String text : texts) {
                longer.add(text + "[");
                if (!text.endsWith("[")) {
                    longer.add(text + "(");
                    longer.add(text + "!");
                }
            }
            texts = longer;
        }
        return texts;
    }

    private static String closed(String open) {
        String brackets = open.replaceAll("[^\\[]", "");
        String rounds = open.replaceAll("[^(]", "");
        return open + "1" + "]".repeat(brackets.length()) + "=1" + ")".repeat(rounds.length());
    }

    private static void lawSeventhOpen() {
        DUE.by("Terms", "5 a seventh of ( [ ! that are open in one another, at it");
        for (int many = 0; many <= 5; many++) {
            for (String open : opened(many)) {
                lawIs("w1(" + closed(open) + ")", 1);
                lawIs("w1(1=1|" + closed(open) + "&" + closed(open) + ")", 1);
            }
        }
        for (String open : opened(6)) {
            lawIs("w1(" + closed(open) + ")", -5008);
            lawIs("w1(" + open, -5008);
            lawIs("w1(1=1&" + open, -5012);
        }
    }

    private static void lawOpenOfTheClause() {
        DUE.by("Terms", "the ( of the CLAUSE counts");
        lawIs("w1((((((1=1))))))", 1);
        lawIs("w1(((((((1=1)))))))", -5008);
        lawIs("w1([[[[[1]]]]]=[[[[[1]]]]])", 1);
        lawIs("w1(1=[[[[[[1]]]]]])", -5010);
        lawIs("w1(1=1);w1((((((1=1))))))", 2);
        lawIs("w1((((((1=1))))));w1(((((((", -5026);
    }

    private static void lawNotIsOpenTillItsPieceEnds() {
        DUE.by("Terms", "a ! is open till its PIECE ends");
        lawIs("w1(!!!!!1=1&!!!!!1=1|!!!!!1=1)", 1);
        lawIs("w1(!1=[[[[1]]]])", 1);
        lawIs("w1(!1=[[[[[1]]]]])", -5010);
        lawIs("w1(!1=1&1=[[[[[1]]]]])", 1);
        lawIs("w1(!1=1|[[[[[1]]]]]=1)", 1);
        lawIs("w1(!((((1=1))))&(((((1=1))))))", 1);
        lawIs("w1(!(!(!1=1&!1=1)&!(!1=1)))", 1);
        lawIs("w1(!(!(!1=1&!!1=1)))", -5013);
    }

    private static void lawSumStandsAhead() {
        DUE.by("Terms", "the E of a CLAUSE stands ahead of it");
        lawIs("w[[[[[[1]]]]]](1=1)", 1);
        lawIs("w[[[[[[[1]]]]]]](1=1)", -5007);
        lawIs("w[[[[[[1]]]]]]*[[[[[[1]]]]]]((((((1=1))))))", 1);
        lawIs("w[[[[[[1]]]]]]+[[[[[[[", -5021);
    }

    private static void lawFirstFromTheLeft() {
        DUE.by("Terms", "FAULTS, the first from the left: 1 what can't stand there (the end, too); 2 a sixth digit");
        lawIs("w123456;q", -2006);
        lawIs("w[[[[[[[123456", -5007);
        lawIs("w123456[[[[[[[", -2006);
        lawIs("q123456", -1000);
        lawIs("w1(1=1)123456", -1007);
        lawIs("w1(!!!!!!123456", -5008);
        lawIs("w1(!!!!!123456", -2013);
    }
}
