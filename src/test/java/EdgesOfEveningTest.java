/** Promises 14 to 16 and 31: each sentence about what ends, sleeps, is left out, is drawn, is right or stays. */
public final class EdgesOfEveningTest {
    private static final Due DUE = new Due();
    private static final String TERMS = "Terms";
    private static final String[] PICTURES = {Due.UNLIKE, Due.CORNER, Due.HALF, Due.UPRIGHT, Due.PLAIN};

    public static void main(String[] args) {
        placesInTray();
        emptyEvenings();
        notToldLeftOut();
        noLampLeft();
        lastLampPops();
        sleepsFromTheFirst();
        noneLeftSleeps();
        secondsOfTurnsTire();
        rightOnesAreNotLookedAt();
        belowWhatIsDrawn();
        eachLookerDraws();
        triedInOrder();
        turnedTillItIsRight();
        jamsAtEachTurn();
        popsBelow();
        drawsWrapAround();
        sixtySlides();
        triedOthers();
        triedChangesNothing();
        putInPart();
        putInWithoutOften();
        putInCounts();
        DUE.end();
    }

    private static void placesInTray() {
        DUE.by("Promise 14", "The SLIDE at place k of THE TRAY; NONE: no such place");
        SlideNight n = new SlideNight();
        DUE.is("without a TRAY", n.inTray(0), -1);
        Due.tray(n, "0-31,0-27");
        DUE.is("the first", n.inTray(0), 0);
        DUE.is("the last", n.inTray(59), 27);
        for (int k : Due.beyond(0, 59)) {
            DUE.is("inTray(" + k + ")", n.inTray(k), -1);
        }
        Due.tray(n, "31");
        DUE.is("the only one", n.inTray(0), 31);
        DUE.is("behind it", n.inTray(1), -1);
        DUE.is("where one was before", n.inTray(59), -1);
    }

    private static void emptyEvenings() {
        DUE.by("Promise 15", "THE EVENING is had: its seconds");
        SlideNight n = Due.withSlides(2);
        Due.law(n, "s9(1=1)");
        DUE.is("without a TRAY", n.evening(), 0);
        Due.tray(n, "5,6,7");
        DUE.is("with none that is told", n.evening(), 0);
        DUE.is("nothing is drawn", n.count(6), 1);
        Due.tray(n, "1");
        DUE.is("with one", n.evening(), 9);
    }

    private static void notToldLeftOut() {
        DUE.by(TERMS, "SLIDES that are not told are left out when it is shown");
        SlideNight n = Due.withSlides(2);
        Due.law(n, "so+1(1=1)");
        Due.tray(n, "9,0,(5,1)2,31");
        DUE.is("the TRAY has them", n.count(3), 7);
        DUE.is("the TRAY has them", n.inTray(0), 9);
        DUE.is("seconds", n.tried(0), 1 + 2 + 3);
        DUE.is("SHOWN", n.tried(1), 3);
        n.gone(1);
        DUE.is("without one that is gone", n.evening(), 1);
        DUE.is("a DRAW for the one that is shown alone", n.count(6), Due.draw(1, 1));
    }

    private static void noLampLeft() {
        DUE.by(TERMS, "With no LAMP left it is over");
        SlideNight n = Due.withSlides(1);
        n.put(0, 3);
        n.looker(0, 0, 5);
        n.looker(1, 0, 0);
        Due.tray(n, "0");
        Due.law(n, "s9(1=1);n10(1=1);t9(1=1);x10(1=1)");
        n.lamps(0);
        int[] due = {0, 0, 0, 0, 0, 0, 1, 1};
        for (int what = 0; what < due.length; what++) {
            DUE.is("tried(" + what + ")", n.tried(what), due[what]);
        }
        DUE.is("evening()", n.evening(), 0);
        DUE.is("LAMPS", n.count(2), 0);
        DUE.is("nothing is drawn", n.count(6), 1);
        DUE.is("nothing is turned", n.slideIs(0, 0), 3);
    }

    private static void lastLampPops() {
        DUE.by(TERMS, "(4) With a DRAW: below x the lamp pops: a LAMP less");
        for (int lamps = 1; lamps <= 9; lamps++) {
            SlideNight n = Due.withSlides(1);
            Due.tray(n, "(0)9,0,0");
            Due.law(n, "s7(1=1);x10(1=1)");
            n.lamps(lamps);
            DUE.is("SHOWN by " + lamps, n.tried(1), lamps);
            DUE.is("pops of " + lamps, n.tried(5), lamps);
            DUE.is("its seconds are had still", n.evening(), 7 * lamps);
            DUE.is("LAMPS", n.count(2), 0);
            DUE.is("DRAWS", n.count(6), Due.draw(1, lamps));
        }
    }

    private static void sleepsFromTheFirst() {
        DUE.by(TERMS, "who has none sleeps from the first");
        SlideNight n = Due.withSlides(1);
        n.put(0, 3);
        n.looker(0, 0, 0);
        Due.tray(n, "0");
        Due.law(n, "n10(1=1)");
        DUE.is("noticed", n.tried(2), 0);
        DUE.is("awake", n.tried(6), 0);
        n.evening();
        DUE.is("a DRAW for the lamp alone", n.count(6), Due.draw(1, 1));
        n.looker(0, 0, 1);
        DUE.is("noticed by who has a second", n.tried(2), 1);
        DUE.is("awake, since it took none", n.tried(6), 1);
        n.looker(0, 0, 0);
        DUE.is("not noticed again by who has none", n.tried(2), 0);
    }

    private static void noneLeftSleeps() {
        DUE.by(TERMS, "(5) All its seconds together are taken from each LOOKER's PATIENCE who is awake; who has none "
            + "left sleeps (for this evening)");
        for (int patience = 8; patience <= 22; patience++) {
            SlideNight n = Due.withSlides(2);
            n.put(1, 3);
            n.looker(4, 0, patience);
            Due.tray(n, "0,0,1");
            Due.law(n, "s10(i=0);n10(1=1)");
            DUE.is("who has " + patience + " notices the third", n.tried(2), patience > 20 ? 1 : 0);
            DUE.is("who has " + patience + " is awake in the end", n.tried(6), patience > 20 ? 16 : 0);
            n.evening();
            DUE.is("PATIENCE as it was told", n.count(24), patience);
            n.put(1, 3);
            DUE.is("awake again at the next one", n.tried(2), patience > 20 ? 1 : 0);
        }
        SlideNight n = Due.withSlides(1);
        n.looker(0, 0, 1);
        Due.tray(n, "0");
        n.evening();
        Due.law(n, "s99(1=1)");
        n.evening();
        n.put(0, 3);
        Due.law(n, "n10(z=1)");
        DUE.is("for that evening alone", n.tried(2), 1);
    }

    private static void secondsOfTurnsTire() {
        DUE.by(TERMS, "(5) All its seconds together are taken");
        for (int patience = 15; patience <= 17; patience++) {
            SlideNight n = Due.withSlides(1);
            n.put(0, 1);
            n.looker(0, 0, patience);
            Due.tray(n, "0");
            // Ten seconds, and three turns of two each: 16 together.
            Due.law(n, "s10(1=1);n10(1=1);t2(1=1)");
            DUE.is("turns, though who has " + patience + " would sleep", n.tried(3), 3);
            DUE.is("awake of " + patience, n.tried(6), patience > 16 ? 1 : 0);
        }
    }

    private static void rightOnesAreNotLookedAt() {
        DUE.by(TERMS, "(2) If it is WRONG: LOOKERS who are awake, by numbers: with a DRAW each: below n: that one "
            + "notices it");
        for (String picture : PICTURES) {
            for (int way = 0; way < 8; way++) {
                SlideNight n = new SlideNight();
                Due.slide(n, 0, picture, 0, 0, 0);
                n.put(0, way);
                n.looker(0, 0, 9999);
                Due.tray(n, "0");
                Due.law(n, "n10(1=1)");
                boolean isWrong = n.slideIs(0, 1) == 1;
                DUE.is("noticed", n.tried(2), isWrong ? 1 : 0);
                DUE.is("turned", n.tried(3) > 0, isWrong);
                DUE.is("WRONG in the end", n.tried(7), 0);
                n.evening();
                DUE.is("one that is right stays IN its WAY", isWrong || n.slideIs(0, 0) == way, true);
                DUE.is("and nobody draws", isWrong || n.count(6) == Due.draw(1, 1), true);
            }
        }
    }

    private static void belowWhatIsDrawn() {
        DUE.by(TERMS, "with a DRAW each: below n");
        for (int seed = 0; seed < 60; seed++) {
            int draw = Due.draw(seed, 1) % 10;
            SlideNight n = Due.withSlides(1);
            n.put(0, 3);
            n.looker(0, 0, 9999);
            n.seed(seed);
            Due.tray(n, "0");
            Due.law(n, "n" + draw + "(1=1)");
            DUE.is("as many tenths as are drawn", n.tried(2), 0);
            Due.law(n, "n" + (draw + 1) + "(1=1)");
            DUE.is("one more", n.tried(2), 1);
        }
    }

    private static void eachLookerDraws() {
        DUE.by(TERMS, "LOOKERS who are awake, by numbers: with a DRAW each");
        for (int l = 0; l < 8; l++) {
            SlideNight n = Due.withSlides(1);
            n.put(0, 3);
            for (int k = 7; k >= 0; k--) {
                n.looker(k, 0, k == 2 || k == 5 ? 0 : 50);
            }
            Due.tray(n, "0");
            Due.law(n, "n10(l=" + l + ")");
            boolean sleeps = l == 2 || l == 5;
            DUE.is("noticed by " + l, n.tried(2), sleeps ? 0 : 1);
            n.evening();
            DUE.is("six LOOKERS, the turn, the lamp", n.count(6), Due.draw(1, sleeps ? 7 : 8));
        }
        // By numbers: the second DRAW is that of the second number.
        for (int seed = 0; seed < 60; seed++) {
            SlideNight n = Due.withSlides(1);
            n.put(0, 3);
            n.looker(7, 0, 50);
            n.looker(1, 0, 50);
            n.seed(seed);
            Due.tray(n, "0");
            Due.law(n, "n5(l=7)");
            DUE.is("noticed by the second", n.tried(2), Due.draw(seed, 2) % 10 < 5 ? 1 : 0);
        }
    }

    private static void triedInOrder() {
        DUE.by(TERMS, "WAYS are tried in order 1 to 7 as turns of how it is SHOWN now (each from how it was SHOWN at "
            + "first): each turn takes t seconds");
        int[] turns = {0, 3, 2, 1, 4, 5, 6, 7};
        for (int way = 1; way < 8; way++) {
            for (int turn = 0; turn < 8; turn++) {
                SlideNight n = Due.withSlides(1);
                n.put(0, way);
                n.looker(0, 0, 9999);
                Due.tray(n, "0");
                Due.law(n, "n10(1=1);t1(q=" + turn % 4 + "&m=" + turn / 4 + ")");
                DUE.is("from " + way + " turn " + turn, n.tried(0), turn >= 1 && turn <= turns[way] ? 1 : 0);
            }
        }
    }

    private static void turnedTillItIsRight() {
        DUE.by(TERMS, "till one by which it is right: it is IN that WAY then (0 or one ALIKE it)");
        int[] alike = {1, 129, 5, 17, 255};
        for (int k = 0; k < PICTURES.length; k++) {
            for (int way = 0; way < 8; way++) {
                SlideNight n = new SlideNight();
                Due.slide(n, 0, PICTURES[k], 0, 0, 0);
                n.put(0, way);
                n.looker(0, 0, 9999);
                Due.tray(n, "0");
                Due.law(n, "n10(1=1);t10(1=1)");
                int turns = 0;
                int at = way;
                while ((alike[k] >> at & 1) == 0) {
                    turns++;
                    at = NaiveNight.then(way, turns);
                }
                DUE.is("turns", n.tried(3), turns);
                DUE.is("never more than seven", turns <= 7, true);
                DUE.is("seconds", n.evening(), 10 * turns);
                DUE.is("IN", n.slideIs(0, 0), at);
            }
        }
        DUE.is("by the seventh", NaiveNight.then(7, 7), 0);
    }

    private static void jamsAtEachTurn() {
        DUE.by(TERMS, "with a DRAW for each turn: below j it jams: it stays as it is SHOWN then and is shown so (no "
            + "more turns)");
        for (int seed = 0; seed < 300; seed++) {
            SlideNight n = Due.withSlides(1);
            n.put(0, 7);
            n.looker(0, 0, 9999);
            n.seed(seed);
            Due.tray(n, "0");
            Due.law(n, "n10(1=1);t9(1=1);j2(1=1)");
            int turns = 1;
            while (turns < 7 && Due.draw(seed, 1 + turns) % 10 >= 2) {
                turns++;
            }
            boolean isJammed = Due.draw(seed, 1 + turns) % 10 < 2;
            DUE.is("turns", n.tried(3), turns);
            DUE.is("jams", n.tried(4), isJammed ? 1 : 0);
            DUE.is("seconds", n.evening(), 9 * turns);
            DUE.is("IN", n.slideIs(0, 0), NaiveNight.then(7, turns));
            DUE.is("DRAWS", n.count(6), Due.draw(seed, 1 + turns + 1));
        }
        SlideNight three = Due.withSlides(3);
        three.put(0, 1);
        three.put(2, 1);
        three.looker(0, 0, 9999);
        Due.tray(three, "0-2");
        Due.law(three, "n10(1=1);j10(1=1)");
        DUE.is("two jam", three.tried(4), 2);
        DUE.is("by one turn each", three.tried(3), 2);
        for (int draw = 0; draw < 10; draw++) {
            int seed = 0;
            while (Due.draw(seed, 2) % 10 != draw) {
                seed++;
            }
            SlideNight n = Due.withSlides(1);
            n.put(0, 3);
            n.looker(0, 0, 9999);
            n.seed(seed);
            Due.tray(n, "0");
            Due.law(n, "n10(1=1);j" + draw + "(1=1)");
            DUE.is("as many tenths as are drawn", n.tried(4), 0);
            Due.law(n, "n10(1=1);j" + (draw + 1) + "(1=1)");
            DUE.is("one more", n.tried(4), 1);
        }
    }

    private static void popsBelow() {
        DUE.by(TERMS, "below x the lamp pops");
        for (int seed = 0; seed < 60; seed++) {
            int draw = Due.draw(seed, 1) % 10;
            SlideNight n = Due.withSlides(1);
            n.seed(seed);
            Due.tray(n, "0");
            Due.law(n, "x" + draw + "(1=1)");
            DUE.is("as many tenths as are drawn", n.tried(5), 0);
            Due.law(n, "x" + (draw + 1) + "(1=1)");
            DUE.is("one more", n.tried(5), 1);
        }
    }

    private static void drawsWrapAround() {
        DUE.by(TERMS, "DRAWS: X = (25173 X + 13849) modulo 65536 (X is THE SEED at first, 1): X modulo 10");
        SlideNight first = Due.withSlides(1);
        Due.tray(first, "0");
        first.evening();
        DUE.is("from 1", first.count(6), 39022);
        for (int seed : new int[] {0, 1, 2, 3, 1302, 1303, 32767, 32768, 65534, 65535}) {
            SlideNight n = Due.withSlides(1);
            n.seed(seed);
            Due.tray(n, "0");
            long x = seed;
            for (int k = 0; k < 20; k++) {
                n.evening();
                x = (25173 * x + 13849) % 65536;
                DUE.is("X", n.count(6), x);
            }
        }
    }

    private static void sixtySlides() {
        DUE.by(TERMS, "AN EVENING: the SLIDES of THE TRAY, one behind the other");
        SlideNight n = Due.withSlides(32);
        for (int i = 0; i < 32; i++) {
            n.put(i, 7);
        }
        for (int l = 0; l < 8; l++) {
            n.looker(l, 0, 9999);
        }
        Due.tray(n, "0-31,27-0");
        Due.law(n, "s99(1=1);n10(1=1);t1(1=1)");
        int[] due = {60 * 99 + 32 * 7, 60, 32, 32 * 7, 0, 0, 255, 0};
        for (int what = 0; what < due.length; what++) {
            DUE.is("tried(" + what + ")", n.tried(what), due[what]);
        }
        DUE.is("seconds", n.evening(), due[0]);
        DUE.is("DRAWS", n.count(6), Due.draw(1, 60 + 32 * 8 + 32 * 7));
        DUE.is("WRONG ones", n.count(30), 0);
    }

    private static void triedOthers() {
        DUE.by("Promise 16", "NONE for others");
        SlideNight n = Due.withSlides(1);
        Due.tray(n, "0");
        Due.law(n, "s9(1=1)");
        for (int what : Due.beyond(0, 7)) {
            DUE.is("tried(" + what + ")", n.tried(what), -1);
        }
        DUE.is("tried(0)", n.tried(0), 9);
        DUE.is("tried(7)", n.tried(7), 0);
    }

    private static void triedChangesNothing() {
        DUE.by("Part 2", "TRIED is THE EVENING by the DRAWS that will come; nothing is changed");
        SlideNight n = Due.withSlides(2);
        n.put(0, 7);
        n.put(1, 5);
        n.lamps(9);
        n.looker(3, 1, 77);
        n.seed(500);
        Due.tray(n, "(0,1)9");
        Due.law(n, "s1(1=1);n5(1=1);t1(1=1);j3(1=1);x4(1=1)");
        for (int round = 0; round < 2; round++) {
            for (int what = -1; what <= 8; what++) {
                n.tried(what);
                DUE.is("IN", n.slideIs(0, 0), 7);
                DUE.is("IN", n.slideIs(1, 0), 5);
                DUE.is("LAMPS", n.count(2), 9);
                DUE.is("X", n.count(6), 500);
                DUE.is("PATIENCE", n.count(23), 77);
            }
        }
        int seconds = n.tried(0);
        int pops = n.tried(5);
        int wrong = n.tried(7);
        DUE.is("the DRAWS that will come: seconds", n.evening(), seconds);
        DUE.is("the DRAWS that will come: LAMPS", n.count(2), 9 - pops);
        DUE.is("the DRAWS that will come: WRONG ones", n.count(30), wrong);
    }

    private static void putInPart() {
        DUE.by("Part 3", "with X one on (as a DRAW) X modulo the sum of w: the WAY in whose part that lies (WAY 0 "
            + "first)");
        // WAYS 0 to 7: 1 0 99 2 0 0 3 1, together 106.
        int[] ends = {1, 1, 100, 102, 102, 102, 105, 106};
        for (int seed = 0; seed < 400; seed++) {
            SlideNight n = Due.withSlides(1);
            n.put(0, 5);
            Due.law(n, "w1(q=0&m=0);w200(q=2&m=0);w2(q=3&m=0);w3(q=2);w1(q=3)");
            n.seed(seed);
            int part = Due.draw(seed, 1) % 106;
            int way = 0;
            while (part >= ends[way]) {
                way++;
            }
            DUE.is("WRONG ones", n.putIn(), way == 0 ? 0 : 1);
            DUE.is("IN by part " + part, n.slideIs(0, 0), way);
            DUE.is("X", n.count(6), Due.draw(seed, 1));
        }
        for (int way = 0; way < 8; way++) {
            SlideNight n = Due.withSlides(1);
            Due.law(n, "w1(q=" + way % 4 + "&m=" + way / 4 + ")");
            n.putIn();
            DUE.is("the only WAY", n.slideIs(0, 0), way);
        }
    }

    private static void putInWithoutOften() {
        DUE.by("Part 3", "without w it stays");
        SlideNight none = new SlideNight();
        DUE.is("no SLIDES", none.putIn(), 0);
        DUE.is("no SLIDES: X", none.count(6), 1);
        for (String law : new String[] {"s1(1=1)", "w0(1=1)", "w0-9(1=1)", "w9/0(1=1)", "w9(1/0=0)"}) {
            SlideNight n = Due.withSlides(3);
            n.gone(1);
            n.put(0, 6);
            Due.law(n, law);
            DUE.is("WRONG ones", n.putIn(), 1);
            DUE.is("IN", n.slideIs(0, 0), 6);
            DUE.is("IN", n.slideIs(2, 0), 0);
            DUE.is("X goes on for each told SLIDE", n.count(6), Due.draw(1, 2));
        }
    }

    private static void putInCounts() {
        DUE.by("Promise 31", "PUT IN by the hand: how many are WRONG then");
        SlideNight n = new SlideNight();
        for (int i = 0; i < 32; i++) {
            Due.slide(n, i, PICTURES[i % 5], 0, 0, 0);
        }
        Due.law(n, "w1(q=2&m=0)");
        // By half a turn UNLIKE, CORNER and UPRIGHT are WRONG, HALF and PLAIN are not.
        DUE.is("all told ones", n.putIn(), 7 + 7 + 6);
        DUE.is("count(30)", n.count(30), 20);
        DUE.is("X", n.count(6), Due.draw(1, 32));
    }
}
