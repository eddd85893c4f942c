/** What THE LAW comes to (of promise 10): seen through the seconds of a SLIDE, and by each letter's bounds. */
public final class LawTest {
    private static final Due DUE = new Due();

    public static void main(String[] args) {
        sums();
        conditions();
        refused();
        clauses();
        letters();
        bounds();
        lookers();
        DUE.end();
    }

    /** SLIDE 5, KIND 3, MAKER 2, WORTH 41, DAY 17, IN WAY 6. */
    private static SlideNight oneSlide() {
        SlideNight n = new SlideNight();
        Due.slide(n, 5, Due.UNLIKE, 3, 2, 41);
        n.day(5, 17);
        n.put(5, 6);
        Due.tray(n, "5");
        return n;
    }

    private static void secondsAre(String law, int want) {
        SlideNight n = oneSlide();
        DUE.is("read " + law, Due.law(n, law) > 0, true);
        DUE.is(law, n.leftOut(9999, 2), want);
        DUE.is(law + " in an evening", n.evening(), want);
    }

    private static void sum(String sum, int want) {
        secondsAre("s" + sum + "(1=1)", want);
    }

    private static void holds(String condition, boolean want) {
        secondsAre("s7(" + condition + ");s3(1=1)", want ? 7 : 3);
    }

    private static void sums() {
        sum("0", 0);
        sum("00042", 42);
        sum("1+2*3", 7);
        sum("[1+2]*3", 9);
        sum("20-5-3", 12);
        sum("20-[5-3]", 18);
        sum("40/4/2", 5);
        sum("40/[4/2]", 20);
        sum("17%5", 2);
        sum("17%5*3", 6);
        sum("2*17%5", 4);
        sum("2+17/5", 5);
        sum("90-1*2+3", 91);
        sum("[0-7]/2+50", 47);
        sum("[0-7]%4+50", 47);
        sum("7/[0-2]+50", 47);
        sum("7%[0-4]+50", 53);
        sum("99999", 99);
        sum("100", 99);
        sum("99", 99);
        sum("5-6", 0);
        // 65536 times 65536 is nothing in 32 bits, 46341 times itself is below 0.
        sum("65536*65536+4", 4);
        sum("46341*46341", 0);
        sum("[46341*46341]/[0-99999]%90", 2147479015 / 99999 % 90);
        sum("65536*32768/[0-1]", 0);
        sum("65536*32768/[0-1]/[0-50000]", 99);
        sum("65536*32768%[0-1]+8", 8);
        sum("65536*32768-1", 99);
        sum("[[[[[[8]]]]]]", 8);
        sum("1" + "+1".repeat(80), 81);
    }

    private static void conditions() {
        holds("1=1", true);
        holds("1=2", false);
        holds("1<2", true);
        holds("2<2", false);
        holds("2>1", true);
        holds("2>2", false);
        holds("!1=1", false);
        holds("!!1=1", true);
        holds("!!!1=1", false);
        holds("1=1&2=2", true);
        holds("1=1&2=1", false);
        holds("1=2|2=2", true);
        holds("1=2|2=1", false);
        holds("1=1|1=1&1=2", true);
        holds("1=2&1=1|1=1", true);
        holds("(1=1|1=1)&1=2", false);
        holds("1=2&(1=1|1=1)", false);
        holds("!1=2&1=1", true);
        holds("!1=1|1=1", true);
        holds("!(1=1|1=1)", false);
        holds("!(1=1&1=2)", true);
        holds("1=1&1=1&1=2", false);
        holds("1=2|1=2|1=1", true);
        holds("1=1&1=2&1=1", false);
        holds("1=2|1=1|1=2", true);
        holds("1=2&1=1&1=1|1=2", false);
        holds("1+2=3&3=1+2", true);
        holds("1<2*3-4", true);
        holds("0-1<0", true);
        holds("65536*32768<0", true);
        holds("1=1" + "&1=1".repeat(50), true);
        holds("1=1" + "&1=1".repeat(49) + "&1=2", false);
        holds("1=2" + "|1=2".repeat(49) + "|1=1", true);
        holds("1=2" + "|1=2".repeat(50), false);
        holds("1=2" + "|!1=1&1=1|(1=2)".repeat(13), false);
    }

    private static void refused() {
        holds("1/0=0", false);
        holds("1%0=0", false);
        holds("!1/0=0", false);
        holds("!!1/0=0", false);
        holds("1/0=0|1=1", false);
        holds("1=1|1/0=0", true);
        holds("1=2|1/0=0", false);
        holds("1=2&1/0=0", false);
        holds("1=2&1/0=0|1=1", true);
        holds("1=1&1/0=0|1=1", false);
        holds("!(1=2&1/0=0)", true);
        holds("!(1=1&1/0=0)", false);
        holds("(1=1|1/0=0)&1=1", true);
        holds("(1/0=0)|1=1", false);
        holds("5=1/[3-3]|1=1", false);
        sum("1/0", 0);
        sum("5+1/0", 0);
        sum("5+[1/0]", 0);
        sum("5%[1-1]+9", 0);
        // One that holds is the one, even if its E is REFUSED.
        secondsAre("s1/0(1=1);s4(1=1)", 0);
        secondsAre("s1/0(1=2);s4(1=1)", 4);
    }

    private static void clauses() {
        secondsAre("s4(1=1);s5(1=1)", 4);
        secondsAre("s4(1=2);s5(1=1);s6(1=1)", 5);
        secondsAre("s4(1=2);s5(1=2)", 0);
        secondsAre("t4(1=1);w4(1=1)", 0);
        secondsAre("t9(1=1);s4(1=1)", 4);
        secondsAre("s0(1=1);s4(1=1)", 0);
        secondsAre("w1(1=1);w1(1=1);w1(1=1);w1(1=1);w1(1=1);w1(1=1);w1(1=1);w1(1=1);"
            + "w1(1=1);w1(1=1);w1(1=1);w1(1=1);w1(1=1);w1(1=1);s2(1=2);s9(1=1)", 9);
        SlideNight n = oneSlide();
        Due.law(n, "s4(1=1)");
        Due.law(n, "s5(1=1");
        DUE.is("the law before stays", n.leftOut(9999, 2), 4);
        Due.law(n, "s6(1=1)");
        DUE.is("the new law", n.leftOut(9999, 2), 6);
    }

    private static void letters() {
        sum("i", 5);
        sum("k", 3);
        sum("a", 2);
        sum("y", 17);
        sum("q", 2);
        sum("m", 1);
        sum("v", 41);
        sum("l+e+z+o", 0);
        holds("i=5&k=3&a=2&y=17&q=2&m=1&v=41&o=0&l=0&e=0&z=0", true);
        // o: how many have been shown in this evening, those alone that are told.
        SlideNight n = oneSlide();
        Due.slide(n, 6, Due.PLAIN, 0, 0, 9);
        Due.tray(n, "5,7,6,5");
        Due.law(n, "so*10+1(1=1)");
        DUE.is("o in an evening", n.evening(), 1 + 11 + 21);
        DUE.is("o beyond evenings", n.leftOut(99, 2), 2);
        Due.law(n, "s1(1=1);xo*10(1=1)");
        n.lamps(2);
        DUE.is("the first pops not, the second and third do", n.tried(1), 3);
        DUE.is("pops", n.tried(5), 2);
        n.looker(0, 0, 0);
        Due.law(n, "n10(1=1);p6-o(1=1);to(1=1);b3+o(1=1);w1+o(q=0);w2(1=1)");
        DUE.is("o in p and t", n.leave(5, 0), 6);
        Due.law(n, "n10(o=0);t2(o=0);b3+o(1=1);w1+o(q=0);w2(1=1)");
        DUE.is("o in b", n.lightBox(99, 1), 3);
        DUE.is("o in n and t", n.lightBox(99, 2), 12);
        DUE.is("o in w", n.odds(5, 0, 0, 1), 14);
        DUE.is("o in w", n.hand(1), 14);
        DUE.is("o in t", n.toTurn(5, 20) > 0, true);
        // In w the WAY that is asked of, in t the turn.
        Due.law(n, "w1+q+10*m(1=1);tq+10*m(1=1)");
        for (int way = 0; way < 8; way++) {
            long all = 4 * 1 + 6 + 4 * 11 + 6;
            long part = 1 + way % 4 + way / 4 * 10;
            long above = n.odds(5, way, 0, 0);
            long below = n.odds(5, way, 0, 1);
            DUE.is("w by its WAY " + way, above * all, part * below);
        }
        // IN 6, which is its own turn back: turns 1 to 6.
        DUE.is("t by the turn", -n.leave(5, 0), 1 + 2 + 3 + 10 + 11 + 12);
    }

    private static void bounds() {
        SlideNight n = oneSlide();
        n.looker(0, 9, 50);
        Due.law(n, "p5000(1=1);n99(1=1);b5000(1=1);t200(1=1)");
        DUE.is("p and n and t", n.leave(5, 0), 999 - 6 * 99);
        DUE.is("b", n.lightBox(9999, 1), 999);
        DUE.is("b", n.lightBox(998, 1), 0);
        Due.law(n, "p0-5(1=1);n10(1=1);b0-5(1=1);t1(1=1)");
        DUE.is("p below", n.leave(5, 0), -6);
        DUE.is("b below", n.lightBox(0, 0), 1);
        Due.law(n, "p900(1=1);n0-1(1=1);t0-3(1=1)");
        DUE.is("n and t below", n.leave(5, 0), 0);
        Due.law(n, "w500(q=0&m=0);w1(1=1)");
        DUE.is("w", n.odds(5, 0, 0, 0), 99);
        DUE.is("w", n.odds(5, 0, 0, 1), 106);
        Due.law(n, "w0-500(q=0&m=0);w1(1=1)");
        DUE.is("w below", n.odds(5, 0, 0, 0), 0);
        n.looker(0, 9, 9999);
        Due.law(n, "n10(1=1);j11(1=1);x11(1=1)");
        DUE.is("j", n.tried(4), 1);
        DUE.is("x", n.tried(5), 1);
        Due.law(n, "n10(1=1);j0-1(1=1);x0-1(1=1)");
        DUE.is("j below", n.tried(4), 0);
        DUE.is("x below", n.tried(5), 0);
    }

    private static void lookers() {
        SlideNight n = oneSlide();
        n.looker(3, 8, 700);
        Due.law(n, "n10(l=3&e=8&z=700);p1(1=1)");
        DUE.is("l, e and z in LEAVE", n.leave(5, 0), 1);
        DUE.is("l, e and z in an evening", n.tried(2), 1);
        Due.law(n, "n10(l=3&e=8&z=600);p1(1=1)");
        DUE.is("another z", n.leave(5, 0), 0);
        DUE.is("another z", n.tried(2), 0);
        Due.slide(n, 6, Due.PLAIN, 0, 0, 9);
        Due.tray(n, "6,6,5");
        Due.law(n, "n10(z=700-80&o=2);s40(1=1)");
        DUE.is("z is what is left", n.tried(2), 1);
        Due.law(n, "n10(q=2&m=1&k=3);s40(1=1)");
        DUE.is("q and m in n", n.tried(2), 1);
        Due.law(n, "n10(1=1);p10*l+e+z(1=1)");
        DUE.is("no LOOKER in p", n.leave(5, 0), 0);
    }
}
