import java.lang.reflect.Constructor;
import java.lang.reflect.Field;
import java.lang.reflect.Method;
import java.lang.reflect.Modifier;

/** Promises 1 to 14, 32 and 36: what is told, and what is seen of it at once. */
public final class TellingTest {
    private static final Due DUE = new Due();

    public static void main(String[] args) {
        face();
        newObject();
        tape();
        slides();
        placesAndDays();
        goneOnes();
        lookersAndLamps();
        trays();
        trayFaults();
        laws();
        lawFaults();
        ways();
        pictures();
        DUE.end();
    }

    private static void face() {
        int methods = 0;
        for (Method m : SlideNight.class.getDeclaredMethods()) {
            methods += Modifier.isPublic(m.getModifiers()) ? 1 : 0;
            DUE.is(m.getName() + " is public or private", Modifier.isPublic(m.getModifiers())
                || Modifier.isPrivate(m.getModifiers()), true);
        }
        DUE.is("public methods", methods, 35);
        for (Constructor<?> c : SlideNight.class.getDeclaredConstructors()) {
            DUE.is("constructor", Modifier.isPublic(c.getModifiers()) && c.getParameterCount() == 0, true);
        }
        for (Field f : SlideNight.class.getDeclaredFields()) {
            DUE.is(f.getName() + " is private", Modifier.isPrivate(f.getModifiers()), !f.getName().equals("NONE"));
        }
        DUE.is("NONE", SlideNight.NONE, -1);
    }

    /** Promises 1 and 36. */
    private static void newObject() {
        SlideNight n = new SlideNight();
        int[] due = {0, 0, 1, 0, 0, 0, 1, 0, 0, 0};
        for (int what = -1; what <= 31; what++) {
            int want = what >= 0 && what < due.length ? due[what] : what == 30 ? 0 : -1;
            DUE.is("new: count(" + what + ")", n.count(what), want);
        }
        for (int i = 0; i < 32; i++) {
            DUE.is("new: slideIs", n.slideIs(i, 0), -1);
        }
        DUE.is("new: inTray(0)", n.inTray(0), -1);
        DUE.is("new: evening()", n.evening(), 0);
        DUE.is("new: undo()", n.undo(), false);
    }

    /** Promise 2. */
    private static void tape() {
        SlideNight n = new SlideNight();
        for (int k = 1; k <= 13; k++) {
            DUE.is("feed " + k, n.feed(0, 0, 0, 0, 0), 20 * k);
        }
        DUE.is("feed 14", n.feed(0, 0, 0, 0, 0), -1);
        DUE.is("tape stays full", n.count(5), 260);
        n.law(1);
        DUE.is("tape is empty behind a fault", n.count(5), 0);
        Due.slide(n, 3, Due.UNLIKE, 0, 0, 0);
        n.feed('a' << 24 | 'b' << 16 | '.' << 8 | '.', 0x2e2e2e2e, 0x2e2e2e2e, 0x2e2e2e2e, 0x2e2e2e2e);
        n.feed(0x2e2e2e2e, 0x2e800000, 0, 0, 0);
        DUE.is("the highest byte comes first", n.check(3, 25), -1);
        n.feed(0x80ff017f, -1, -1, -1, -1);
        DUE.is("bytes above 127 are no signs", n.check(3, 1), 0);
    }

    /** Promise 3. */
    private static void slides() {
        SlideNight n = new SlideNight();
        Due.feed(n, Due.PLAIN.substring(0, 20));
        DUE.is("slide with 20 bytes", n.slide(0, 0, 0, 0), false);
        DUE.is("the tape stays", n.count(5), 20);
        Due.feed(n, Due.PLAIN.substring(0, 20));
        for (int[] no : new int[][] {{-1, 0, 0, 0}, {32, 0, 0, 0}, {0, -1, 0, 0}, {0, 4, 0, 0}, {0, 0, -1, 0},
            {0, 0, 4, 0}, {0, 0, 0, -1}, {0, 0, 0, 100}, {Integer.MIN_VALUE, 0, 0, 0}}) {
            DUE.is("slide: no such ones", n.slide(no[0], no[1], no[2], no[3]), false);
        }
        DUE.is("the tape stays", n.count(5), 40);
        DUE.is("slide", n.slide(31, 3, 2, 99), true);
        DUE.is("the tape is empty", n.count(5), 0);
        int[] due = {0, 0, 255, 1, 3, 2, 99, 0};
        for (int what = 0; what < 8; what++) {
            DUE.is("slideIs(31, " + what + ")", n.slideIs(31, what), due[what]);
        }
        for (String sign : new String[] {"`", "{", "-", "/", "A", " ", "\0", "\u00e9"}) {
            DUE.is("slide with " + sign, Due.slide(n, 31, "z" + sign + Due.PLAIN.substring(2), 0, 0, 0), false);
            DUE.is("the tape is empty", n.count(5), 0);
        }
        DUE.is("another sign at the end", Due.slide(n, 30, Due.PLAIN.substring(1) + "~", 0, 0, 0), false);
        DUE.is("the one before stays", n.slideIs(31, 6), 99);
        n.put(31, 3);
        n.day(31, 9);
        n.sure(31, 1);
        DUE.is("a and z", Due.slide(n, 31, "az" + Due.PLAIN.substring(2), 1, 1, 1), true);
        DUE.is("in place of the one before: WAY", n.slideIs(31, 0), 0);
        DUE.is("in place of the one before: DAY", n.slideIs(31, 7), 0);
        DUE.is("in place of the one before: sign", n.shown(31, 1, 0), 'z');
        DUE.is("one SLIDE", n.count(0), 1);
    }

    /** Promises 4 and 5. */
    private static void placesAndDays() {
        SlideNight n = Due.withSlides(1);
        DUE.is("put(0, -1)", n.put(0, -1), false);
        DUE.is("put(0, 8)", n.put(0, 8), false);
        DUE.is("put(1, 0)", n.put(1, 0), false);
        DUE.is("put(-1, 0)", n.put(-1, 0), false);
        DUE.is("put(32, 0)", n.put(32, 0), false);
        DUE.is("put(0, 7)", n.put(0, 7), true);
        DUE.is("IN 7", n.slideIs(0, 0), 7);
        DUE.is("day(0, -1)", n.day(0, -1), false);
        DUE.is("day(0, 100)", n.day(0, 100), false);
        DUE.is("day(1, 0)", n.day(1, 0), false);
        DUE.is("day(0, 99)", n.day(0, 99), true);
        DUE.is("DAY 99", n.slideIs(0, 7), 99);
        DUE.is("slideIs(0, -1)", n.slideIs(0, -1), -1);
        DUE.is("slideIs(0, 8)", n.slideIs(0, 8), -1);
        DUE.is("slideIs(1, 0)", n.slideIs(1, 0), -1);
    }

    /** Promise 6. */
    private static void goneOnes() {
        SlideNight n = Due.withSlides(4);
        n.clue(0, 1);
        n.clue(1, 2);
        n.clue(2, 3);
        n.link(1, 0);
        n.link(0, 2);
        n.link(2, 3);
        n.sure(1, 0);
        n.sure(2, 0);
        DUE.is("gone(4)", n.gone(4), false);
        DUE.is("gone(-1)", n.gone(-1), false);
        DUE.is("gone(32)", n.gone(32), false);
        DUE.is("gone(1)", n.gone(1), true);
        DUE.is("gone(1) again", n.gone(1), false);
        DUE.is("SLIDES", n.count(0), 3);
        DUE.is("CLUES", n.count(7), 1);
        DUE.is("SURE ones", n.count(8), 1);
        DUE.is("LINKS", n.count(9), 2);
        Due.slide(n, 1, Due.UNLIKE, 0, 0, 0);
        DUE.is("SURE ones", n.count(8), 1);
        DUE.is("gone(0)", n.gone(0), true);
        DUE.is("LINKS", n.count(9), 1);
        Due.feed(n, 3, 2);
        DUE.is("the clue that is left", n.spilt(2, 0), 2);
        Due.tray(n, "2,3");
        Due.law(n, "s3(1=1);s4(i=2)");
        DUE.is("the link that is left", n.leftOut(3, 1), 1);
    }

    /** Promises 7, 8 and 32. */
    private static void lookersAndLamps() {
        SlideNight n = new SlideNight();
        for (int[] no : new int[][] {{-1, 0, 0}, {8, 0, 0}, {0, -1, 0}, {0, 10, 0}, {0, 0, -1}, {0, 0, 10000}}) {
            DUE.is("looker: no such ones", n.looker(no[0], no[1], no[2]), false);
        }
        DUE.is("looker(7, 9, 9999)", n.looker(7, 9, 9999), true);
        DUE.is("looker(0, 0, 0)", n.looker(0, 0, 0), true);
        DUE.is("LOOKERS", n.count(1), 129);
        DUE.is("EYES", n.count(17), 9);
        DUE.is("PATIENCE", n.count(27), 9999);
        DUE.is("EYES", n.count(10), 0);
        DUE.is("EYES of one not told", n.count(11), -1);
        DUE.is("PATIENCE of one not told", n.count(26), -1);
        n.looker(7, 2, 5);
        DUE.is("in place: EYES", n.count(17), 2);
        DUE.is("in place: PATIENCE", n.count(27), 5);
        for (int what : new int[] {18, 19, 28, 29, 31, -1, Integer.MIN_VALUE, Integer.MAX_VALUE}) {
            DUE.is("count(" + what + ")", n.count(what), -1);
        }
        DUE.is("lamps(-1)", n.lamps(-1), false);
        DUE.is("lamps(10)", n.lamps(10), false);
        DUE.is("a LAMP still", n.count(2), 1);
        DUE.is("lamps(9)", n.lamps(9), true);
        DUE.is("LAMPS", n.count(2), 9);
        DUE.is("lamps(0)", n.lamps(0), true);
        DUE.is("LAMPS", n.count(2), 0);
        DUE.is("seed(-1)", n.seed(-1), false);
        DUE.is("seed(65536)", n.seed(65536), false);
        DUE.is("X still", n.count(6), 1);
        DUE.is("seed(65535)", n.seed(65535), true);
        DUE.is("X", n.count(6), 65535);
        DUE.is("seed(0)", n.seed(0), true);
        DUE.is("X", n.count(6), 0);
    }

    private static void trayIs(String text, int... slides) {
        SlideNight n = new SlideNight();
        DUE.is("tray " + text, Due.tray(n, text), slides.length);
        for (int k = 0; k < slides.length; k++) {
            DUE.is("tray " + text + " at " + k, n.inTray(k), slides[k]);
        }
        DUE.is("tray " + text + " behind", n.inTray(slides.length), -1);
        DUE.is("tray " + text + " ahead", n.inTray(-1), -1);
        DUE.is("tray " + text + " count", n.count(3), slides.length);
    }

    /** Promises 9 and 14. */
    private static void trays() {
        trayIs("0", 0);
        trayIs("31", 31);
        trayIs("07,00", 7, 0);
        trayIs("2-4", 2, 3, 4);
        trayIs("4-2", 4, 3, 2);
        trayIs("5-5", 5);
        trayIs("09-11", 9, 10, 11);
        trayIs("(1,2)3", 1, 2, 1, 2, 1, 2);
        trayIs("7,(1,(2-3)2)2,8", 7, 1, 2, 3, 2, 3, 1, 2, 3, 2, 3, 8);
        trayIs("((((6)2)2)2)2,1", 6, 6, 6, 6, 6, 6, 6, 6, 6, 6, 6, 6, 6, 6, 6, 6, 1);
        SlideNight n = new SlideNight();
        DUE.is("sixty", Due.tray(n, "0-31,0-27"), 60);
        DUE.is("the last of sixty", n.inTray(59), 27);
        DUE.is("a fault", Due.tray(n, "1,"), -1002);
        DUE.is("the one before stays", n.count(3), 60);
        DUE.is("the tape is empty", n.count(5), 0);
        Due.feed(n, "1");
        DUE.is("tray(0)", n.tray(0), -1);
        DUE.is("tray(-1)", n.tray(-1), -1);
        DUE.is("tray(21)", n.tray(21), -1);
        DUE.is("tray(121)", n.tray(121), -1);
        DUE.is("the tape stays", n.count(5), 20);
        DUE.is("tray(1)", n.tray(1), 1);
        DUE.is("inTray(1)", n.inTray(1), -1);
        StringBuilder longest = new StringBuilder("0");
        while (longest.length() < 119) {
            longest.append(",0");
        }
        DUE.is("sixty by 119 bytes", Due.tray(n, longest.toString()), 60);
        DUE.is("120 bytes", Due.tray(n, "1" + longest), 60);
        Due.feed(n, longest + ",0");
        DUE.is("121 bytes", n.tray(121), -1);
        DUE.is("the tape stays", n.count(5), 140);
    }

    private static void trayFault(String text, int fault) {
        DUE.is("tray " + text, Due.tray(new SlideNight(), text), fault);
    }

    /** Promise 9, FAULTS. */
    private static void trayFaults() {
        trayFault(",", -1000);
        trayFault("-1", -1000);
        trayFault(" 1", -1000);
        trayFault("1 ", -1001);
        trayFault("1)", -1001);
        trayFault("1-", -1002);
        trayFault("1-,", -1002);
        trayFault("1--2", -1002);
        trayFault("1-2-3", -1003);
        trayFault("123", -1002);
        trayFault("1-123", -1004);
        trayFault("1(", -1001);
        trayFault("1,,2", -1002);
        trayFault("()2", -1001);
        trayFault("(1", -1002);
        trayFault("(1]", -1002);
        trayFault("(1)", -1003);
        trayFault("(1)0", -1003);
        trayFault("(1)1", -1003);
        trayFault("(1):", -1003);
        trayFault("(1)9", 9);
        trayFault("(1)2", 2);
        trayFault("(1)22", -1004);
        trayFault("(1)2(", -1004);
        trayFault("(1,)2", -1003);
        trayFault("1-(2)2", -1002);
        trayFault("32", -3000);
        trayFault("320", -3000);
        trayFault("99x", -3000);
        trayFault("1-32", -3002);
        trayFault("(5,40)2", -3003);
        trayFault("3x", -1001);
        trayFault("(((((", -5004);
        trayFault("((((", -1004);
        trayFault("1,((2,(((", -5008);
        trayFault("(((((((", -5004);
        trayFault("((1)2,((1)2)2)2", 12);
        trayFault("((((1)2)2)2,((((1", -5015);
        trayFault("0-31,0-28", -6005);
        trayFault("0-31,0-28x", -6005);
        trayFault("0-31,0-27,1", -6010);
        trayFault("0-31,0-27,1-", -1012);
        trayFault("0-31,0-27,x", -1010);
        trayFault("(0-6)9", -6000);
        trayFault("(0-6)9x", -6000);
        trayFault("(0-6)x", -1005);
        trayFault("1,(0-5,(0-9)2)3", -6002);
        trayFault("1,((0-9)7)2", -6003);
        trayFault("0-31,(1-2,0-31)2", -6010);
    }

    /** Promise 10. */
    private static void laws() {
        SlideNight n = new SlideNight();
        DUE.is("a CLAUSE", Due.law(n, "w1(1=1)"), 1);
        DUE.is("CLAUSES", Due.law(n, "w1(1=1);n1(1=1);s1(1=1);t1(1=1);j1(1=1);x1(1=1);p1(1=1);b1(1=1)"), 8);
        DUE.is("count(4)", n.count(4), 8);
        DUE.is("a fault", Due.law(n, "w1(1=1);"), -1008);
        DUE.is("the one before stays", n.count(4), 8);
        DUE.is("the tape is empty", n.count(5), 0);
        Due.feed(n, "w1(1=1)");
        DUE.is("law(0)", n.law(0), -1);
        DUE.is("law(-5)", n.law(-5), -1);
        DUE.is("law(21)", n.law(21), -1);
        DUE.is("law(241)", n.law(241), -1);
        DUE.is("the tape stays", n.count(5), 20);
        DUE.is("law(7)", n.law(7), 1);
        String sixteen = "w1(1=1)" + ";w1(1=1)".repeat(15);
        DUE.is("sixteen", Due.law(n, sixteen), 16);
        DUE.is("letters", Due.law(n, "ni+k+a+y+q+m+o+v+l+e+z(i=1)"), 1);
        String full = "w1" + "1+".repeat(116) + "1(1=1)";
        DUE.is("length of the longest", full.length(), 240);
        DUE.is("the longest", Due.law(n, full), 1);
        Due.feed(n, full + "x");
        DUE.is("law(241)", n.law(241), -1);
        DUE.is("the tape stays", n.count(5), 260);
    }

    private static void lawFault(String text, int fault) {
        DUE.is("law " + text, Due.law(new SlideNight(), text), fault);
    }

    /** Promise 10, FAULTS. */
    private static void lawFaults() {
        lawFault("q1(1=1)", -1000);
        lawFault("W1(1=1)", -1000);
        lawFault(";", -1000);
        lawFault(" w1(1=1)", -1000);
        lawFault("w", -1001);
        lawFault("w(1=1)", -1001);
        lawFault("w-1(1=1)", -1001);
        lawFault("w1", -1002);
        lawFault("w1=1", -1002);
        lawFault("w1(", -1003);
        lawFault("w1()", -1003);
        lawFault("w1(1", -1004);
        lawFault("w1(1)", -1004);
        lawFault("w1(1=", -1005);
        lawFault("w1(1==1)", -1005);
        lawFault("w1(1=1", -1006);
        lawFault("w1(1=1=1)", -1006);
        lawFault("w1(1=1]", -1006);
        lawFault("w1(1=1)w", -1007);
        lawFault("w1(1=1),", -1007);
        lawFault("w1(1=1);", -1008);
        lawFault("w1(1=1);;", -1008);
        lawFault("w1(1=1|)", -1007);
        lawFault("w1(1=1&|", -1007);
        lawFault("w1(|1=1)", -1003);
        lawFault("w1(!)", -1004);
        lawFault("w1(1=!1)", -1005);
        lawFault("w1([1=1])", -1005);
        lawFault("w1((1)=1)", -1005);
        lawFault("w1((1=1)=1)", -1008);
        lawFault("w[1(1=1)", -1003);
        lawFault("w[](1=1)", -1002);
        lawFault("w1*(1=1)", -1003);
        lawFault("w1+(1=1)", -1003);
        lawFault("w1+-1(1=1)", -1003);
        lawFault("w1 (1=1)", -1002);
        lawFault("ww(1=1)", -1001);
        lawFault("wn(1=1)", -1001);
        lawFault("wii(1=1)", -1002);
        lawFault("w12345(1=1)", 1);
        lawFault("w123456(1=1)", -2006);
        lawFault("w00000(1=000001)", -2014);
        lawFault("w000000", -2006);
        lawFault("w1(!!!!!1=1)", 1);
        lawFault("w1(!!!!!!1=1)", -5008);
        lawFault("w1(!!!!![1]=1)", -5008);
        lawFault("w1(!!!!!(1=1))", -5008);
        lawFault("w1(!!!!1=1&!!!!!1=1)", 1);
        lawFault("w1(!(![[[1]]]=1)&[1]=1)", -5008);
        lawFault("w1(!(![[1]]=1)&[1]=1)", 1);
        lawFault("w1(((((([1", -5008);
        lawFault("w1(([[[[1]]]]=1))", 1);
        lawFault("w1(([[[[[1]]]]]=1))", -5008);
        lawFault("w[[[[[[1]]]]]]([[[[[1]]]]]=1)", 1);
        lawFault("w[[[[[[[1", -5007);
        String sixteen = "w1(1=1)" + ";w1(1=1)".repeat(15);
        lawFault(sixteen + ";n1(1=1)", -4128);
        lawFault(sixteen + ";n", -4128);
        lawFault(sixteen + ";q1(1=1)", -1128);
        lawFault(sixteen + ";", -1128);
        lawFault(sixteen + "n", -1127);
    }

    /** Promise 11. */
    private static void ways() {
        SlideNight n = new SlideNight();
        DUE.is("two quarters", n.ways(1, 1, 0), 2);
        DUE.is("a quarter, then mirrored", n.ways(1, 4, 0), 7);
        DUE.is("mirrored, then a quarter", n.ways(4, 1, 0), 5);
        DUE.is("mirrored twice", n.ways(6, 6, 0), 0);
        int[] back = {0, 3, 2, 1, 4, 5, 6, 7};
        for (int a = 0; a < 8; a++) {
            DUE.is("back", n.ways(a, 0, 1), back[a]);
            DUE.is("back again", n.ways(a, back[a], 0), 0);
            for (int b = 0; b < 8; b++) {
                DUE.is("turn", n.ways(a, n.ways(a, b, 2), 0), b);
                DUE.is("then", n.ways(a, b, 0), NaiveNight.then(a, b));
            }
        }
        for (int[] no : new int[][] {{-1, 0, 0}, {8, 0, 0}, {0, -1, 0}, {0, 8, 0}, {0, 0, -1}, {0, 0, 3}, {8, 0, 1}}) {
            DUE.is("ways: no such ones", n.ways(no[0], no[1], no[2]), -1);
        }
    }

    /** Promises 12 and 13. */
    private static void pictures() {
        SlideNight n = Due.withSlides(1);
        int[][] a = {{0, 0}, {4, 0}, {4, 4}, {0, 4}, {4, 0}, {4, 4}, {0, 4}, {0, 0}};
        int[][] b = {{1, 0}, {4, 1}, {3, 4}, {0, 3}, {3, 0}, {4, 3}, {1, 4}, {0, 1}};
        for (int way = 0; way < 8; way++) {
            n.put(0, way);
            DUE.is("a by " + way, n.shown(0, a[way][0], a[way][1]), 'a');
            DUE.is("b by " + way, n.shown(0, b[way][0], b[way][1]), 'b');
            DUE.is("between by " + way, n.shown(0, 2, 2), '.');
            DUE.is("WRONG by " + way, n.slideIs(0, 1), way == 0 ? 0 : 1);
            DUE.is("count(30)", n.count(30), way == 0 ? 0 : 1);
        }
        for (int[] no : new int[][] {{0, -1, 0}, {0, 5, 0}, {0, 0, -1}, {0, 0, 5}, {1, 0, 0}, {-1, 0, 0}, {32, 0, 0}}) {
            DUE.is("shown: no such ones", n.shown(no[0], no[1], no[2]), -1);
        }
        String[] pictures = {Due.UNLIKE, Due.CORNER, Due.PLAIN, Due.HALF, Due.UPRIGHT};
        int[] alike = {1, 129, 255, 5, 17};
        int[] unlike = {8, 4, 1, 4, 4};
        for (int k = 0; k < pictures.length; k++) {
            Due.slide(n, k, pictures[k], 0, 0, 0);
            DUE.is("ALIKE " + k, n.slideIs(k, 2), alike[k]);
            DUE.is("unlike " + k, n.slideIs(k, 3), unlike[k]);
            for (int way = 0; way < 8; way++) {
                n.put(k, way);
                DUE.is("WRONG " + k + " by " + way, n.slideIs(k, 1), 1 - (alike[k] >> way & 1));
            }
        }
        Due.slide(n, 6, "b...b...............b...b", 0, 0, 0);
        Due.slide(n, 7, ".a.......................", 0, 0, 0);
        Due.slide(n, 8, "a...b....................", 0, 0, 0);
        DUE.is("all corners", n.slideIs(6, 2), 255);
        DUE.is("two upper corners with two signs", n.slideIs(8, 2), 1);
        DUE.is("beside a corner", n.slideIs(7, 3), 8);
        Due.slide(n, 9, ".a.......a.....a.......a.", 0, 0, 0);
        DUE.is("whirled", n.slideIs(9, 2), 15);
    }
}
