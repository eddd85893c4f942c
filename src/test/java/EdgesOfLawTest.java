/** What THE LAW of promise 10 comes to: its letters' bounds, 32 bits, what is REFUSED, what is not told. */
public final class EdgesOfLawTest {
    private static final Due DUE = new Due();
    private static final String TERMS = "Terms";

    public static void main(String[] args) {
        noneIsNothing();
        firstThatHolds();
        oftenBounds();
        noticeBounds();
        showBounds();
        turnBounds();
        jamBounds();
        popBounds();
        pennyBounds();
        boxBounds();
        shownSoFar();
        lookerNotTold();
        wraps();
        refusedConditions();
        refusedSums();
        asMuchAsMatters();
        longOnes();
        DUE.end();
    }

    /** SLIDE 0 is IN WAY 3, so that one turn makes it right; LOOKER 0 and THE TRAY are there. */
    private static SlideNight nightWithoutLaw() {
        SlideNight n = new SlideNight();
        Due.slide(n, 0, Due.UNLIKE, 0, 0, 9);
        n.put(0, 3);
        n.looker(0, 0, 9999);
        Due.tray(n, "0");
        return n;
    }

    private static SlideNight night(String law) {
        SlideNight n = nightWithoutLaw();
        DUE.is("law " + law, Due.law(n, law) > 0, true);
        return n;
    }

    private static void holds(String condition, boolean due) {
        SlideNight n = night("s7(" + condition + ");s3(1=1)");
        DUE.is(condition, n.leftOut(9999, 2), due ? 7 : 3);
    }

    private static void noneIsNothing() {
        DUE.by(TERMS, "of the first one of a letter whose C holds the E (beyond its bounds the bound; none: 0)");
        String holdsNot = "w9(1=2);n9(1=2);s9(1=2);t9(1=2);j9(1=2);x9(1=2);p9(1=2);b9(1=2)";
        for (SlideNight n : new SlideNight[] {nightWithoutLaw(), night(holdsNot)}) {
            DUE.is("w", n.odds(0, 0, 0, 0), -2);
            DUE.is("n", n.tried(2), 0);
            DUE.is("s", n.leftOut(9999, 2), 0);
            DUE.is("t and p", n.leave(0, 0), 0);
            DUE.is("x", n.tried(5), 0);
            DUE.is("b", n.lightBox(0, 1), 0);
        }
        DUE.is("j", night("n10(1=1);j10(1=2)").tried(4), 0);
    }

    private static void firstThatHolds() {
        DUE.by(TERMS, "of the first one of a letter whose C holds the E");
        DUE.is("the first", night("s1(1=1);s2(1=1)").leftOut(99, 2), 1);
        DUE.is("the second", night("s1(1=2);s2(1=1);s3(1=1)").leftOut(99, 2), 2);
        String fifteen = "s1(1=2);".repeat(15);
        DUE.is("the sixteenth", night(fifteen + "s9(1=1)").leftOut(99, 2), 9);
        DUE.is("beyond its bounds it is still the first", night("s0-5(1=1);s2(1=1)").leftOut(99, 2), 0);
    }

    private static void oftenBounds() {
        DUE.by(TERMS, "w how often the hand puts a SLIDE in a WAY (0 to 99)");
        int[][] due = {{98, 98}, {99, 99}, {100, 99}, {99999, 99}, {0, 0}, {1, 1}};
        for (int[] d : due) {
            // Of WAY 0 so often, of WAY 1 97 times.
            SlideNight n = night("w" + d[0] + "(q+m=0);w97(q=1&m=0)");
            long above = n.odds(0, 0, 0, 0);
            long below = n.odds(0, 0, 0, 1);
            DUE.is("w by " + d[0], above * (97 + d[1]), d[1] * below);
        }
        SlideNight n = night("w0-1(q+m=0);w97(q=1&m=0)");
        DUE.is("w below", n.odds(0, 0, 0, 0), 0);
        DUE.is("w below", n.odds(0, 0, 0, 1), 1);
    }

    private static void noticeBounds() {
        DUE.by(TERMS, "n tenths that a LOOKER notices a WRONG one (0 to 10)");
        String[] sums = {"0-1", "0", "1", "9", "10", "11", "99999"};
        int[] due = {0, 0, 1, 9, 10, 10, 10};
        for (int k = 0; k < sums.length; k++) {
            SlideNight n = night("n" + sums[k] + "(1=1);p10(1=1)");
            DUE.is("n by " + sums[k], n.leave(0, 0), due[k]);
            DUE.is("n by " + sums[k], n.leave(0, 1), 1);
        }
    }

    private static void showBounds() {
        DUE.by(TERMS, "s seconds it is shown (0 to 99)");
        String[] sums = {"0-1", "0", "1", "98", "99", "100", "99999"};
        int[] due = {0, 0, 1, 98, 99, 99, 99};
        for (int k = 0; k < sums.length; k++) {
            SlideNight n = night("s" + sums[k] + "(1=1)");
            DUE.is("s by " + sums[k], n.leftOut(9999, 2), due[k]);
            DUE.is("s by " + sums[k] + " in an evening", n.evening(), due[k]);
        }
    }

    private static void turnBounds() {
        DUE.by(TERMS, "t seconds a turn takes (0 to 99)");
        String[] sums = {"0-1", "0", "1", "98", "99", "100", "99999"};
        int[] due = {0, 0, 1, 98, 99, 99, 99};
        for (int k = 0; k < sums.length; k++) {
            SlideNight n = night("t" + sums[k] + "(1=1);n10(1=1);w1(q=3&m=0)");
            DUE.is("t by " + sums[k], n.leave(0, 0), -due[k]);
            DUE.is("t by " + sums[k] + " of a row", n.toTurn(0, 20), due[k]);
            DUE.is("t by " + sums[k] + " in an evening", n.evening(), due[k]);
        }
    }

    private static void jamBounds() {
        DUE.by(TERMS, "j tenths that it jams when it is turned (0 to 10)");
        for (int seed = 0; seed < 40; seed++) {
            int draw = Due.draw(seed, 2) % 10;
            for (String sum : new String[] {"0-99999", "0", "10", "99999"}) {
                SlideNight n = night("n10(1=1);j" + sum + "(1=1)");
                n.seed(seed);
                DUE.is("j by " + sum, n.tried(4), sum.startsWith("0") ? 0 : 1);
            }
            for (int tenths = 0; tenths <= 10; tenths++) {
                SlideNight n = night("n10(1=1);j" + tenths + "(1=1)");
                n.seed(seed);
                DUE.is("j by " + tenths, n.tried(4), draw < tenths ? 1 : 0);
            }
        }
    }

    private static void popBounds() {
        DUE.by(TERMS, "x tenths that the lamp pops (0 to 10)");
        for (int seed = 0; seed < 40; seed++) {
            // The first DRAW is the LOOKER's, who does not notice it.
            int draw = Due.draw(seed, 2) % 10;
            for (String sum : new String[] {"0-99999", "0", "10", "99999"}) {
                SlideNight n = night("x" + sum + "(1=1)");
                n.seed(seed);
                DUE.is("x by " + sum, n.tried(5), sum.startsWith("0") ? 0 : 1);
            }
            for (int tenths = 0; tenths <= 10; tenths++) {
                SlideNight n = night("x" + tenths + "(1=1)");
                n.seed(seed);
                DUE.is("x by " + tenths, n.tried(5), draw < tenths ? 1 : 0);
            }
        }
    }

    private static void pennyBounds() {
        DUE.by(TERMS, "p pence for one that is noticed (0 to 999)");
        String[] sums = {"0-1", "0", "1", "998", "999", "1000", "99999"};
        int[] due = {0, 0, 1, 998, 999, 999, 999};
        for (int k = 0; k < sums.length; k++) {
            SlideNight n = night("p" + sums[k] + "(1=1);n10(1=1)");
            DUE.is("p by " + sums[k], n.leave(0, 0), due[k]);
        }
    }

    private static void boxBounds() {
        DUE.by(TERMS, "b seconds on the light box (0 to 999)");
        String[] sums = {"0-1", "0", "1", "998", "999", "1000", "99999"};
        int[] due = {0, 0, 1, 998, 999, 999, 999};
        for (int k = 0; k < sums.length; k++) {
            SlideNight n = night("b" + sums[k] + "(1=1);n10(1=1);t1(1=1)");
            DUE.is("b by " + sums[k], n.lightBox(9999, 1), due[k]);
            DUE.is("b by " + sums[k], n.lightBox(due[k], 0), 1);
        }
    }

    private static void shownSoFar() {
        DUE.by(TERMS, "o how many have been shown in this evening (0 on; beyond evenings 0)");
        SlideNight n = night("so+1(1=1)");
        Due.tray(n, "0,0,9,0");
        DUE.is("0, 1 and 2", n.evening(), 1 + 2 + 3);
        DUE.is("0 again in the next one", n.evening(), 1 + 2 + 3);
        DUE.is("s beyond evenings", n.leftOut(9999, 2), 1);
        Due.tray(n, "(0)9,(0)9,(0)9,(0)9,(0)9,(0)9,(0)6");
        Due.law(n, "s99(o=59)");
        DUE.is("59 of the last of sixty", n.evening(), 99);
        n.put(0, 3);
        Due.law(n, "n10(o=0);p8(o=0);t3(o=0);b5(o=0);w2(o=0)");
        DUE.is("n, p and t beyond evenings", n.leave(0, 0), 8 - 3);
        DUE.is("b beyond evenings", n.lightBox(9999, 1), 5);
        DUE.is("n and t beyond evenings", n.lightBox(9999, 2), 3);
        DUE.is("w beyond evenings", n.odds(0, 0, 0, 1), 8);
        DUE.is("w of the hand", n.hand(1), 8);
        DUE.is("w and t of a row", n.toTurn(0, 20), 3 * 7);
        DUE.is("w and t of a row", n.toTurn(0, 21), 2);
        n.seed(0);
        n.putIn();
        DUE.is("w of the hand that puts in", n.slideIs(0, 0), Due.draw(0, 1) % 16 / 2);
    }

    private static void lookerNotTold() {
        DUE.by(TERMS, "l its number, e EYES, z seconds of PATIENCE left (where they are not told they are 0)");
        SlideNight n = night("s4(l+e+z=0);t5(l+e+z=0);j10(l+e+z=0);x10(l+e+z=0);n10(l=7&e=9&z=9999)");
        n.looker(7, 9, 9999);
        DUE.is("s and t", n.tried(0), 4 + 5);
        DUE.is("j", n.tried(4), 1);
        DUE.is("x", n.tried(5), 1);
        DUE.is("s", n.leftOut(9999, 2), 4);
        Due.law(n, "n10(l=7&e=9&z=9999);p9(l+e+z=0);t2(l+e+z=0);b3(l+e+z=0);w1(l+e+z=0)");
        DUE.is("p and t", n.leave(0, 0), 9 - 2);
        DUE.is("b", n.lightBox(9999, 1), 3);
        DUE.is("w", n.odds(0, 0, 0, 1), 8);
        DUE.is("w and t", n.toTurn(0, 20), 7);
    }

    private static void wraps() {
        DUE.by(TERMS, "All is reckoned with 32 bits, as the machine does");
        String least = "65536*32768";
        holds(least + "<0", true);
        holds(least + "-1>0", true);
        holds(least + "-1=99999*21474+99999+5122", true);
        holds("[" + least + "-1]+1=" + least, true);
        holds(least + "+" + least + "=0", true);
        holds("0-[" + least + "]=" + least, true);
        holds("65536*65536=0", true);
        holds("65535*65537=0-1", true);
        holds("99999*99999=14098*99999+79507", true);
        holds(least + "/[0-1]=" + least, true);
        holds(least + "%[0-1]=0", true);
        holds("[0-7]/2=0-3", true);
        holds("[0-7]%2=0-1", true);
        holds("7/[0-2]=0-3", true);
        holds("7%[0-2]=1", true);
    }

    private static void refusedConditions() {
        DUE.by(TERMS, "what is divided by 0 is REFUSED: then the C as a whole does not hold (through any !, ( ) and "
            + "|)");
        for (String r : new String[] {"1/0=0", "1%0=0", "0/0=0", "0=5%[1-1]", "i<3%m", "1/[1/2]=1"}) {
            holds(r, false);
            holds("!" + r, false);
            holds("!!" + r, false);
            holds("(" + r + ")", false);
            holds("!(" + r + ")", false);
            holds("!(!" + r + ")", false);
            holds(r + "|1=1", false);
            holds("(" + r + ")|1=1", false);
            holds("!" + r + "|1=1", false);
            holds("1=2|" + r + "|1=1", false);
            holds("1=1&" + r + "|1=1", false);
            holds("(1=2|" + r + ")|1=1", false);
            holds("!(1=1&!(" + r + "))|1=1", false);
        }
    }

    private static void refusedSums() {
        DUE.by(TERMS, "an E is 0. Of a C");
        for (String sum : new String[] {"1/0", "1%0", "0/0", "9+1/0", "1/0+9", "9+[1/0]", "[9/0+9]*9", "9-9%[5-5]"}) {
            SlideNight n = night("s" + sum + "(1=1);s8(1=1)");
            DUE.is("the E of the first that holds: " + sum, n.leftOut(9999, 2), 0);
            SlideNight other = night("s" + sum + "(1=2);s8(1=1)");
            DUE.is("one that does not hold: " + sum, other.leftOut(9999, 2), 8);
        }
        DUE.is("0 is divided", night("s0/5+2(1=1)").leftOut(9999, 2), 2);
    }

    private static void asMuchAsMatters() {
        DUE.by(TERMS, "Of a C as much is asked, from the left, as matters");
        holds("1=1|1/0=0", true);
        holds("1=2&1/0=0", false);
        holds("!(1=2&1/0=0)", true);
        holds("!(1=1|1/0=0)", false);
        holds("1=2&1/0=0|1=1", true);
        holds("1=1|1/0=0&1=1", true);
        holds("1=1|1=1&1/0=0", true);
        holds("(1=1|1/0=0)&1=1", true);
        holds("1=1&(1=1|1/0=0)", true);
        holds("1=2&1/0=0&1=1|1=1", true);
        holds("1=2&(1/0=0|1=1)|1=1", true);
        // What matters is asked: the left one does not decide there.
        holds("1=2|1/0=0", false);
        holds("1=1&1/0=0", false);
        holds("!(1=1&1/0=0)", false);
        holds("(1=2|1=1)&1/0=0", false);
        holds("!1<2", false);
        holds("!2>1", false);
        holds("!!1<2", true);
    }

    private static void longOnes() {
        DUE.by(TERMS, "THE LAW: a TEXT of at most 240 bytes");
        holds("1=1" + "&1=1".repeat(55), true);
        holds("1=1" + "&1=1".repeat(54) + "&1=2", false);
        holds("1=2" + "|1=2".repeat(54) + "|1=1", true);
        holds("1=2" + "|1=2".repeat(55), false);
        String hundred = "1" + "+1".repeat(99);
        holds(hundred + "=100", true);
        holds("100=" + hundred, true);
        holds("[1+[1+[1+[1+1*2*[3-2]]]]]=6", true);
    }
}
