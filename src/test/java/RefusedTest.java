import java.util.ArrayList;
import java.util.List;

/** A refused call changes nothing but the tape, where it is told: each one beside a twin on which it is not made. */
public final class RefusedTest {
    private static final Due DUE = new Due();
    private static final int[] SLIDES = {0, 1, 2, 3, 31};
    private static final int NO = -1;

    private interface Call {
        long of(SlideNight n);
    }

    public static void main(String[] args) {
        DUE.by("Part 3", "A call that is refused (NONE, false) changes nothing but the tape, where it is told");
        telling();
        texts();
        looking();
        reckoning();
        orders();
        fullThings();
        undoWithoutKeep();
        DUE.end();
    }

    private static long of(boolean answer) {
        return answer ? 1 : 0;
    }

    /** All is told, some of it KEPT and changed then; what SLIDE 0 shows is on the tape. */
    private static SlideNight toldNight() {
        SlideNight n = new SlideNight();
        for (int i : SLIDES) {
            Due.slide(n, i, i == 2 ? Due.HALF : Due.UNLIKE, i % 4, 1, 10 + i);
            n.day(i, 50 + i);
        }
        n.looker(0, 3, 100);
        n.looker(5, 7, 9999);
        n.lamps(5);
        n.seed(4711);
        n.clue(0, 1);
        n.clue(3, 31);
        n.link(1, 0);
        n.sure(3, 2);
        n.keep();
        n.put(1, 3);
        n.put(3, 6);
        n.put(31, 1);
        n.sure(1, 0);
        n.clue(2, 3);
        n.link(31, 3);
        n.lamps(7);
        n.seed(815);
        Due.tray(n, "0-3,(31,1)2");
        Due.law(n, "w1+q(1=1);n6(e>2);s5+i(1=1);t1+q(1=1);j2(1=1);x3(1=1);p50(1=1);b9(1=1)");
        Due.feed(n, Due.UNLIKE);
        return n;
    }

    private static void look(SlideNight n, List<Long> seen) {
        for (int what = 0; what <= 30; what++) {
            seen.add((long) (what == 5 ? 0 : n.count(what)));
        }
        for (int i : SLIDES) {
            for (int what = 0; what < 8; what++) {
                seen.add((long) n.slideIs(i, what));
            }
        }
        for (int maker = 0; maker < 4; maker++) {
            seen.add((long) n.dots(maker, -1));
        }
        for (int what = 0; what < 8; what++) {
            seen.add((long) n.tried(what));
        }
    }

    private static void lookMore(SlideNight n, List<Long> seen) {
        for (int i : SLIDES) {
            for (int k = 0; k < 25; k++) {
                seen.add((long) n.shown(i, k % 5, k / 5));
            }
            seen.add(n.leave(i, 0));
            seen.add(n.toTurn(i, 20));
        }
        for (int k = 0; k < 9; k++) {
            seen.add((long) n.inTray(k));
        }
        for (int what = 0; what < 3; what++) {
            seen.add(n.lightBox(20, what));
            seen.add((long) n.leftOut(20, what));
        }
        seen.add(n.hand(0));
    }

    private static List<Long> allOf(SlideNight n) {
        List<Long> seen = new ArrayList<>();
        look(n, seen);
        lookMore(n, seen);
        // Where the tape stays, this empties it: an a can't stand there.
        n.law(1);
        Due.feed(n, SLIDES);
        seen.add(n.spilt(5, -1));
        seen.add(of(n.undo()));
        look(n, seen);
        Due.feed(n, SLIDES);
        seen.add(n.spilt(5, -1));
        return seen;
    }

    private static void same(String name, SlideNight n, SlideNight twin) {
        List<Long> got = allOf(n);
        List<Long> due = allOf(twin);
        for (int k = 0; k < due.size(); k++) {
            DUE.is(name + ", then what is seen at " + k, got.get(k), due.get(k));
        }
    }

    private static void refused(String name, Call call, long answer, boolean tapeStays) {
        SlideNight n = toldNight();
        DUE.is(name, call.of(n), answer);
        DUE.is(name + ": bytes of the tape", n.count(5), tapeStays ? 40 : 0);
        if (tapeStays) {
            DUE.is(name + ": what is on the tape", n.check(0, 25), -1);
        }
        same(name, n, toldNight());
    }

    private static void stays(String name, Call call, long answer) {
        refused(name, call, answer, true);
    }

    private static void empties(String name, Call call, long answer) {
        refused(name, call, answer, false);
    }

    private static void telling() {
        stays("slide(32, ..)", n -> of(n.slide(32, 0, 0, 0)), 0);
        stays("slide(-1, ..)", n -> of(n.slide(-1, 0, 0, 0)), 0);
        stays("slide(1, 4, ..)", n -> of(n.slide(1, 4, 0, 0)), 0);
        stays("slide(1, 0, 4, 0)", n -> of(n.slide(1, 0, 4, 0)), 0);
        stays("slide(1, 0, 0, 100)", n -> of(n.slide(1, 0, 0, 100)), 0);
        stays("put(4, 1)", n -> of(n.put(4, 1)), 0);
        stays("put(1, 8)", n -> of(n.put(1, 8)), 0);
        stays("day(4, 1)", n -> of(n.day(4, 1)), 0);
        stays("day(1, 100)", n -> of(n.day(1, 100)), 0);
        stays("gone(4)", n -> of(n.gone(4)), 0);
        stays("looker(8, ..)", n -> of(n.looker(8, 1, 1)), 0);
        stays("looker(0, 10, 1)", n -> of(n.looker(0, 10, 1)), 0);
        stays("looker(0, 1, 10000)", n -> of(n.looker(0, 1, 10000)), 0);
        stays("lamps(10)", n -> of(n.lamps(10)), 0);
        stays("lamps(-1)", n -> of(n.lamps(-1)), 0);
        stays("seed(65536)", n -> of(n.seed(65536)), 0);
        stays("seed(-1)", n -> of(n.seed(-1)), 0);
        stays("sure(4, 0)", n -> of(n.sure(4, 0)), 0);
        stays("sure(0, 4)", n -> of(n.sure(0, 4)), 0);
        stays("sure(1, -1)", n -> of(n.sure(1, -1)), 0);
        stays("clue(0, 4)", n -> n.clue(0, 4), NO);
        stays("clue(4, 0)", n -> n.clue(4, 0), NO);
        stays("clue(0, 0)", n -> n.clue(0, 0), NO);
        stays("link(0, 4)", n -> n.link(0, 4), NO);
        stays("link(4, 0)", n -> n.link(4, 0), NO);
        stays("link(0, 0)", n -> n.link(0, 0), NO);
    }

    /** A call with another text on the tape. */
    private static long with(SlideNight n, String text, Call call) {
        n.law(1);
        Due.feed(n, text);
        return call.of(n);
    }

    private static void texts() {
        String capital = Due.UNLIKE.replace('b', 'B');
        empties("another sign", n -> with(n, capital, m -> of(m.slide(1, 0, 0, 0))), 0);
        stays("tray(0)", n -> n.tray(0), NO);
        stays("tray(41)", n -> n.tray(41), NO);
        stays("tray(121)", n -> n.tray(121), NO);
        stays("law(0)", n -> n.law(0), NO);
        stays("law(41)", n -> n.law(41), NO);
        stays("law(241)", n -> n.law(241), NO);
        empties("a FAULT of THE TRAY", n -> n.tray(1), -1000);
        empties("a late FAULT of THE TRAY", n -> with(n, "3,2,1,0,", m -> m.tray(8)), -1008);
        empties("a FAULT of THE LAW", n -> n.law(1), -1000);
        empties("a late FAULT of THE LAW", n -> with(n, "s9(1=1);x0(1=1);", m -> m.law(16)), -1016);
    }

    private static void looking() {
        stays("ways(8, 0, 0)", n -> n.ways(8, 0, 0), NO);
        stays("shown(0, 5, 0)", n -> n.shown(0, 5, 0), NO);
        stays("shown(4, 0, 0)", n -> n.shown(4, 0, 0), NO);
        stays("slideIs(0, 8)", n -> n.slideIs(0, 8), NO);
        stays("inTray(8)", n -> n.inTray(8), NO);
        stays("tried(8)", n -> n.tried(8), NO);
        stays("tried(-1)", n -> n.tried(-1), NO);
        stays("count(31)", n -> n.count(31), NO);
        stays("count(11)", n -> n.count(11), NO);
        stays("check(0, 26)", n -> n.check(0, 26), -2);
        stays("check(4, 25)", n -> n.check(4, 25), -2);
        stays("shadow(4, 0, 0)", n -> n.shadow(4, 0, 0), NO);
    }

    private static void reckoning() {
        stays("odds(4, ..)", n -> n.odds(4, 0, 0, 0), NO);
        stays("odds(0, 8, ..)", n -> n.odds(0, 8, 0, 0), NO);
        stays("odds(0, 0, 9, 0)", n -> n.odds(0, 0, 9, 0), NO);
        stays("odds(0, 0, 1, 2)", n -> n.odds(0, 0, 1, 2), NO);
        empties("odds by no WAY", n -> n.odds(0, 0, 1, 0), -2);
        stays("toTurn(0, 7)", n -> n.toTurn(0, 7), NO);
        stays("toTurn(4, 0)", n -> n.toTurn(4, 0), NO);
        stays("leave(0, 2)", n -> n.leave(0, 2), NO);
        stays("leave(4, 0)", n -> n.leave(4, 0), -1000000000);
        stays("dots(4, 0)", n -> n.dots(4, 0), NO);
        stays("dots(0, 4)", n -> n.dots(0, 4), NO);
        stays("lightBox(10000, 0)", n -> n.lightBox(10000, 0), NO);
        stays("lightBox(0, 4)", n -> n.lightBox(0, 4), NO);
        stays("lamp(11, 1, 0)", n -> n.lamp(11, 1, 0), NO);
        stays("hand(2)", n -> n.hand(2), NO);
        stays("leftOut(10000, 0)", n -> n.leftOut(10000, 0), NO);
        stays("leftOut(0, 3)", n -> n.leftOut(0, 3), NO);
    }

    private static void orders() {
        stays("spilt(1, -1)", n -> n.spilt(1, -1), NO);
        stays("spilt(13, -1)", n -> n.spilt(13, -1), NO);
        empties("spilt: no such SLIDES", n -> n.spilt(2, -1), -2);
        empties("spilt: one twice", n -> with(n, "\1\1", m -> m.spilt(2, -1)), -2);
        empties("spilt: no such place", n -> with(n, "\1\0", m -> m.spilt(2, 2)), -3);
        stays("says(1, ..)", n -> n.says(1, 0, 1, 0), NO);
        stays("says(13, ..)", n -> n.says(13, 0, 1, 0), NO);
        stays("says(2, 0, 1, 4)", n -> n.says(2, 0, 1, 4), NO);
        empties("says: no such SLIDES", n -> n.says(2, 0, 1, 0), -2);
        empties("says: one twice", n -> with(n, "\1\1", m -> m.says(2, 0, 1, 0)), -2);
        empties("says: not among them", n -> with(n, "\1\0", m -> m.says(2, 0, 2, 0)), -3);
        empties("says: none says more", n -> with(n, "\1\0", m -> m.says(2, 0, 1, 1)), -2);
    }

    private static void fullThings() {
        SlideNight n = toldNight();
        SlideNight twin = toldNight();
        for (int bytes = 60; bytes <= 260; bytes += 20) {
            n.feed(0, 0, 0, 0, 0);
            twin.feed(0, 0, 0, 0, 0);
        }
        DUE.is("feed of a full tape", n.feed(1, 2, 3, 4, 5), NO);
        DUE.is("bytes of the tape", n.count(5), 260);
        same("feed of a full tape", n, twin);
        n = toldNight();
        twin = toldNight();
        for (int clues = 4; clues <= 24; clues++) {
            n.clue(0, 2);
            twin.clue(0, 2);
        }
        DUE.is("one CLUE more", n.clue(31, 0), NO);
        same("one CLUE more", n, twin);
        n = toldNight();
        twin = toldNight();
        for (int links = 3; links <= 12; links++) {
            n.link(1, 0);
            twin.link(1, 0);
        }
        DUE.is("one LINK more", n.link(2, 1), NO);
        same("one LINK more", n, twin);
    }

    private static void undoWithoutKeep() {
        SlideNight n = Due.withSlides(4);
        SlideNight twin = Due.withSlides(4);
        Due.feed(n, "a");
        Due.feed(twin, "a");
        DUE.is("undo()", n.undo(), false);
        DUE.is("bytes of the tape", n.count(5), 20);
        same("undo()", n, twin);
    }
}
