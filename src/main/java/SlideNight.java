/**
 * An evening of slides, some of which are in wrongly. Words in capitals are those of the document.
 *
 * <p>All rows are made in the constructors and used again, so that no call makes an object.
 */
public final class SlideNight {
    public static final int NONE = -1;

    private static final int SLIDES = 32;
    private static final int SIDE = 5;
    private static final int SIGNS = 25;
    private static final int WAYS = 8;
    private static final int ALL_WAYS = 255;
    private static final int MIRROR = 4;
    private static final int CORNERS = 4;
    private static final int LOOKERS = 8;
    private static final int MAX_LAMPS = 9;
    private static final int MAX_SECONDS = 9999;
    private static final int SEEDS = 65536;

    private static final int TAPE_BYTES = 260;
    private static final int FEED_BYTES = 20;
    private static final int TRAY_BYTES = 120;
    private static final int TRAY_SLIDES = 60;
    private static final int TRAY_DEPTH = 4;
    private static final int LAW_BYTES = 240;
    private static final int LAW_CLAUSES = 16;
    private static final int LAW_DEPTH = 6;
    private static final int LAW_DIGITS = 5;

    private static final int CLUES = 24;
    private static final int LINKS = 12;
    private static final int MANY = 12;
    private static final int HAND_SLIDES = 6;
    private static final int MAX_SHOWS = 8;
    private static final int MAX_LASTS = 15;

    private static final int ANOTHER = -2;
    private static final int NOT_AMONG = -3;
    private static final int NO_SLIDE = -1000000000;

    private static final int WRONG_SIGN = 1;
    private static final int SIXTH_DIGIT = 2;
    private static final int NUMBER_ABOVE = 3;
    private static final int CLAUSE_MORE = 4;
    private static final int TOO_DEEP = 5;
    private static final int SLIDES_MORE = 6;

    private final int[] tape;
    private int tapeLength;
    private final State now;
    private final State kept;
    private boolean isKept;
    private TrayText inUse;
    private TrayText spareTray;
    private final LawReader lawReader;
    private final Law rules;
    private final Evening night;
    private final TurnRow turnRow;
    private final Choice choice;
    private final Orders orders;

    public SlideNight() {
        tape = new int[TAPE_BYTES];
        now = new State();
        kept = new State();
        inUse = new TrayText();
        spareTray = new TrayText();
        rules = new Law();
        lawReader = new LawReader(rules.spare);
        night = new Evening();
        turnRow = new TurnRow();
        choice = new Choice();
        orders = new Orders();
    }

    // ---- the tape ----

    public int feed(int a, int b, int c, int d, int e) {
        if (tapeLength + FEED_BYTES > TAPE_BYTES) {
            return NONE;
        }
        addBytes(a);
        addBytes(b);
        addBytes(c);
        addBytes(d);
        addBytes(e);
        return tapeLength;
    }

    private void addBytes(int four) {
        for (int shift = 24; shift >= 0 && tapeLength < TAPE_BYTES; shift -= 8) {
            tape[tapeLength] = (four >>> shift) & 255;
            tapeLength++;
        }
    }

    private boolean tapeHas(int n, int least, int most) {
        return n >= least && n <= most && n <= tapeLength;
    }

    // ---- what is told ----

    public boolean slide(int i, int kind, int maker, int worth) {
        if (!isIn(i, 0, SLIDES - 1) || !isIn(kind, 0, 3) || !isIn(maker, 0, 3) || !isIn(worth, 0, 99)) {
            return false;
        }
        if (tapeLength < SIGNS) {
            return false;
        }
        tapeLength = 0;
        if (!tapeIsPicture()) {
            return false;
        }
        now.slides[i].tell(tape, kind, maker, worth);
        return true;
    }

    private boolean tapeIsPicture() {
        for (int k = 0; k < SIGNS; k++) {
            if (tape[k] != '.' && !isIn(tape[k], 'a', 'z')) {
                return false;
            }
        }
        return true;
    }

    public boolean put(int i, int way) {
        Slide slide = now.toldSlide(i);
        if (slide == null || !isWay(way)) {
            return false;
        }
        slide.way = way;
        return true;
    }

    public boolean day(int i, int day) {
        Slide slide = now.toldSlide(i);
        if (slide == null || !isIn(day, 0, 99)) {
            return false;
        }
        slide.taken = day;
        return true;
    }

    public boolean gone(int i) {
        Slide slide = now.toldSlide(i);
        if (slide == null) {
            return false;
        }
        slide.told = false;
        slide.corner = NONE;
        now.clues.dropWith(i);
        now.links.dropWith(i);
        return true;
    }

    public boolean looker(int l, int eyes, int patience) {
        if (!isIn(l, 0, LOOKERS - 1) || !isIn(eyes, 0, 9) || !isIn(patience, 0, MAX_SECONDS)) {
            return false;
        }
        now.lookersTold |= 1 << l;
        now.eyes[l] = eyes;
        now.patience[l] = patience;
        return true;
    }

    public boolean lamps(int n) {
        if (!isIn(n, 0, MAX_LAMPS)) {
            return false;
        }
        now.lampsLeft = n;
        return true;
    }

    public int tray(int n) {
        if (!tapeHas(n, 1, TRAY_BYTES)) {
            return NONE;
        }
        int answer = spareTray.read(tape, n);
        tapeLength = 0;
        if (answer > 0) {
            TrayText before = inUse;
            inUse = spareTray;
            spareTray = before;
        }
        return answer;
    }

    public int law(int n) {
        if (!tapeHas(n, 1, LAW_BYTES)) {
            return NONE;
        }
        int answer = lawReader.read(tape, n, rules.spare);
        tapeLength = 0;
        if (answer > 0) {
            rules.useSpare();
        }
        return answer;
    }

    // ---- ways and pictures ----

    public int ways(int a, int b, int what) {
        if (!isWay(a) || !isWay(b)) {
            return NONE;
        }
        switch (what) {
            case 0:
                return wayThen(a, b);
            case 1:
                return wayBack(a);
            case 2:
                return turnBetween(a, b);
            default:
                return NONE;
        }
    }

    private static int wayThen(int a, int b) {
        // A mirror that comes behind turns makes them run the other way round.
        int quarters = b >= MIRROR ? b - a : b + a;
        return ((a ^ b) & MIRROR) | (quarters & 3);
    }

    private static int wayBack(int a) {
        return a >= MIRROR ? a : -a & 3;
    }

    private static int turnBetween(int a, int b) {
        return wayThen(wayBack(a), b);
    }

    private static int cornerBy(int corner, int way) {
        int mirrored = way >= MIRROR ? corner ^ 1 : corner;
        return (mirrored + way) & 3;
    }

    private static boolean isIn(int value, int least, int most) {
        return value >= least && value <= most;
    }

    private static boolean isWay(int way) {
        return isIn(way, 0, WAYS - 1);
    }

    public int shown(int i, int x, int y) {
        Slide slide = now.toldSlide(i);
        return slide == null ? NONE : slide.signBy(slide.way, x, y);
    }

    public int slideIs(int i, int what) {
        Slide slide = now.toldSlide(i);
        if (slide == null) {
            return NONE;
        }
        switch (what) {
            case 0:
                return slide.way;
            case 1:
                return slide.isRightBy(slide.way) ? 0 : 1;
            case 2:
                return slide.alike;
            case 3:
                // Each picture comes by as many ways as the right one does.
                return WAYS / Math.max(1, Integer.bitCount(slide.alike));
            case 4:
                return slide.kind;
            case 5:
                return slide.maker;
            case 6:
                return slide.worth;
            case 7:
                return slide.taken;
            default:
                return NONE;
        }
    }

    public int inTray(int k) {
        return inUse.slideAt(k);
    }

    // ---- evenings ----

    public int evening() {
        night.goThrough(now, rules, inUse);
        night.leaveIn(now);
        return night.seconds;
    }

    public int tried(int what) {
        if (!isIn(what, 0, 7)) {
            return NONE;
        }
        night.goThrough(now, rules, inUse);
        switch (what) {
            case 0:
                return night.seconds;
            case 1:
                return night.shownCount;
            case 2:
                return night.noticed;
            case 3:
                return night.turns;
            case 4:
                return night.jams;
            case 5:
                return night.pops;
            case 6:
                return night.awake;
            default:
                return night.wrongOf(now);
        }
    }

    // ---- by what odds it is in which way ----

    public int odds(int i, int way, int n, int what) {
        Slide slide = now.toldSlide(i);
        if (slide == null || !isWay(way) || !isIn(what, 0, 1)) {
            return NONE;
        }
        if (!isIn(n, 0, MAX_SHOWS) || 3 * n > tapeLength) {
            return NONE;
        }
        tapeLength = 0;
        int all = 0;
        int asked = 0;
        for (int w = 0; w < WAYS; w++) {
            if (tapeShowsBy(slide, w, n)) {
                int often = rules.often(slide, w);
                all += often;
                asked = w == way ? often : asked;
            }
        }
        return all == 0 ? ANOTHER : (int) partOf(asked, all, what == 0);
    }

    private boolean tapeShowsBy(Slide slide, int way, int n) {
        for (int k = 0; k < n; k++) {
            if (slide.signBy(way, tape[3 * k], tape[3 * k + 1]) != tape[3 * k + 2]) {
                return false;
            }
        }
        return true;
    }

    public long toTurn(int i, int what) {
        Slide slide = now.toldSlide(i);
        boolean isMean = what == 20 || what == 21;
        if (slide == null || !isMean && !isIn(what, 0, WAYS - 2)) {
            return NONE;
        }
        turnRow.find(slide, rules);
        if (turnRow.allOften == 0) {
            return ANOTHER;
        }
        if (isMean) {
            return partOf(turnRow.least(), turnRow.allOften, what == 20);
        }
        return turnRow.turnAt(what);
    }

    public long leave(int i, int what) {
        if (!isIn(what, 0, 1)) {
            return NONE;
        }
        Slide slide = now.toldSlide(i);
        if (slide == null) {
            return NO_SLIDE;
        }
        if (slide.isRightBy(slide.way)) {
            return partOf(0, 1, what == 0);
        }
        long allTenths = tenthsOfLookers();
        long costs = rules.pence(slide) * noticedTenths(slide) - secondsToTurn(slide) * allTenths;
        return partOf(costs, allTenths, what == 0);
    }

    /** Ten for each told LOOKER, times one another: below the line of the ODDS that one notices. */
    private long tenthsOfLookers() {
        long all = 1;
        for (int l = 0; l < LOOKERS; l++) {
            all *= now.hasLooker(l) ? 10 : 1;
        }
        return all;
    }

    private long noticedTenths(Slide slide) {
        long nobody = 1;
        for (int l = 0; l < LOOKERS; l++) {
            if (now.hasLooker(l)) {
                nobody *= 10 - rules.notices(slide, slide.way, 0, l, now.eyes[l], now.patience[l]);
            }
        }
        return tenthsOfLookers() - nobody;
    }

    private long secondsToTurn(Slide slide) {
        long seconds = 0;
        boolean isRight = slide.isRightBy(slide.way);
        for (int turn = 1; turn < WAYS && !isRight; turn++) {
            seconds += rules.turnSeconds(slide, turn, 0);
            isRight = slide.isRightBy(wayThen(slide.way, turn));
        }
        return seconds;
    }

    // ---- makers' dots ----

    public boolean sure(int i, int corner) {
        Slide slide = now.toldSlide(i);
        if (slide == null || !isIn(corner, 0, CORNERS - 1)) {
            return false;
        }
        slide.corner = corner;
        return true;
    }

    public int dots(int maker, int what) {
        if (!isIn(maker, 0, 3) || !isIn(what, NONE, CORNERS - 1)) {
            return NONE;
        }
        int corners = cornersOf(maker);
        return what == NONE ? corners : waysWithDot(corners, what);
    }

    private int cornersOf(int maker) {
        int fit = (1 << CORNERS) - 1;
        for (int i = 0; i < SLIDES; i++) {
            Slide slide = now.toldSlide(i);
            if (slide != null && slide.maker == maker && slide.corner != NONE) {
                fit &= 1 << cornerBy(slide.corner, wayBack(slide.way));
            }
        }
        return fit;
    }

    private static int waysWithDot(int corners, int shownIn) {
        int fit = 0;
        for (int way = 0; way < WAYS; way++) {
            int corner = cornerBy(shownIn, wayBack(way));
            fit |= (corners >> corner & 1) << way;
        }
        return fit;
    }

    // ---- beforehand ----

    public long lightBox(int seconds, int what) {
        if (!isIn(seconds, 0, MAX_SECONDS) || !isIn(what, 0, 3)) {
            return NONE;
        }
        choice.clear();
        for (int i = 0; i < SLIDES && choice.hasRoom(); i++) {
            Slide slide = now.toldSlide(i);
            if (slide != null && !slide.isRightBy(slide.way)) {
                choice.add(i, rules.boxSeconds(slide), secondsToTurn(slide) * noticedTenths(slide));
            }
        }
        choice.find(seconds);
        if (what == 0) {
            return choice.bestBits;
        }
        return what == 1 ? choice.bestSeconds : partOf(choice.bestGain, tenthsOfLookers(), what == 2);
    }

    // ---- spilt ones ----

    public int clue(int i, int j) {
        if (now.toldSlide(i) == null || now.toldSlide(j) == null || i == j) {
            return NONE;
        }
        return now.clues.add(i, j);
    }

    public long spilt(int n, int what) {
        if (!tapeHas(n, 2, MANY)) {
            return NONE;
        }
        boolean areFit = orders.take(tape, n, now);
        tapeLength = 0;
        if (!areFit) {
            return ANOTHER;
        }
        int all = orders.countAll();
        if (what == NONE) {
            return all;
        }
        if (all == 0) {
            return ANOTHER;
        }
        return isIn(what, 0, n - 1) ? orders.firstAt(what) : NOT_AMONG;
    }

    public long says(int n, int i, int j, int what) {
        if (!tapeHas(n, 2, MANY) || !isIn(what, 0, 3)) {
            return NONE;
        }
        boolean areFit = orders.take(tape, n, now);
        tapeLength = 0;
        if (!areFit) {
            return ANOTHER;
        }
        if (what == 0) {
            boolean areTwo = i != j && orders.has(i) && orders.has(j);
            return areTwo ? orders.countAhead(i, j) : NOT_AMONG;
        }
        orders.findTelling();
        if (orders.tellingLesser == 0) {
            return ANOTHER;
        }
        if (what == 1) {
            return orders.tellingLow;
        }
        return what == 2 ? orders.tellingHigh : orders.tellingLesser;
    }

    // ---- the shadow ----

    public int shadow(int looks, int falls, int what) {
        if (!isIn(looks, 0, 3) || !isIn(falls, 0, 3) || !isIn(what, 0, 2)) {
            return NONE;
        }
        int asShown = timeBy(looks, falls);
        int asMirrored = timeBy(looks, falls < 2 ? 1 - falls : falls);
        if (what == 0) {
            return asShown;
        }
        return what == 1 ? asMirrored : asShown | asMirrored;
    }

    private static int timeBy(int looks, int falls) {
        // Quarters to the right from where it looks to where the sun is, opposite the shadow.
        int toSun;
        switch (falls) {
            case 0:
                toSun = 1;
                break;
            case 1:
                toSun = 3;
                break;
            case 2:
                toSun = 0;
                break;
            default:
                toSun = 2;
        }
        int sun = (looks + toSun) & 3;
        return sun == 0 ? 0 : 1 << (sun - 1);
    }

    // ---- what to leave out ----

    public int link(int i, int j) {
        if (now.toldSlide(i) == null || now.toldSlide(j) == null || i == j) {
            return NONE;
        }
        return now.links.add(i, j);
    }

    public int leftOut(int seconds, int what) {
        if (!isIn(seconds, 0, MAX_SECONDS) || !isIn(what, 0, 2)) {
            return NONE;
        }
        choice.clear();
        for (int i = 0; i < SLIDES && choice.hasRoom(); i++) {
            Slide slide = now.toldSlide(i);
            if (slide != null && inUse.has(i)) {
                choice.add(i, rules.showSeconds(slide, slide.way, 0), slide.worth);
            }
        }
        choice.bind(now.links);
        choice.find(seconds);
        if (what == 0) {
            return (int) choice.bestGain;
        }
        return what == 1 ? choice.bestBits : choice.bestSeconds;
    }

    // ---- lamps and the hand ----

    public long lamp(int x, int n, int what) {
        if (!isIn(x, 0, 10) || !isIn(n, 1, MAX_LASTS) || !isIn(what, 0, 1)) {
            return NONE;
        }
        long above = 1;
        long below = 1;
        for (int k = 0; k < n; k++) {
            above *= 10 - x;
            below *= 10;
        }
        return partOf(above, below, what == 0);
    }

    public long hand(int what) {
        if (!isIn(what, 0, 1)) {
            return NONE;
        }
        long above = 0;
        long below = 1;
        int had = 0;
        for (int i = 0; i < SLIDES && had < HAND_SLIDES; i++) {
            Slide slide = now.toldSlide(i);
            if (slide != null && rules.oftenOf(slide, ALL_WAYS) > 0) {
                long all = rules.oftenOf(slide, ALL_WAYS);
                above = above * all + rules.oftenOf(slide, ALL_WAYS ^ slide.alike) * below;
                below *= all;
                had++;
            }
        }
        return partOf(above, below, what == 0);
    }

    public int putIn() {
        for (int i = 0; i < SLIDES; i++) {
            Slide slide = now.toldSlide(i);
            if (slide != null) {
                putInByHand(slide);
            }
        }
        return now.wrongCount();
    }

    private void putInByHand(Slide slide) {
        // X goes on without w, too: only the WAY that it is IN stays then.
        now.x = nextDraw(now.x);
        int all = rules.oftenOf(slide, ALL_WAYS);
        if (all > 0) {
            slide.way = wayOfPart(slide, now.x % all);
        }
    }

    private int wayOfPart(Slide slide, int part) {
        int ahead = 0;
        for (int way = 0; way < WAYS; way++) {
            ahead += rules.often(slide, way);
            if (part < ahead) {
                return way;
            }
        }
        return slide.way;
    }

    public boolean seed(int x) {
        if (!isIn(x, 0, SEEDS - 1)) {
            return false;
        }
        now.x = x;
        return true;
    }

    private static int nextDraw(int x) {
        return (25173 * x + 13849) & (SEEDS - 1);
    }

    // ---- kept and undone, looked at ----

    public int keep() {
        kept.copyFrom(now);
        isKept = true;
        return now.toldCount();
    }

    public boolean undo() {
        if (isKept) {
            now.copyFrom(kept);
        }
        return isKept;
    }

    public int check(int i, int n) {
        Slide slide = now.toldSlide(i);
        if (slide == null || !tapeHas(n, 0, SIGNS)) {
            return ANOTHER;
        }
        tapeLength = 0;
        for (int k = 0; k < n; k++) {
            if (slide.signBy(slide.way, k % SIDE, k / SIDE) != tape[k]) {
                return k;
            }
        }
        return NONE;
    }

    public int count(int what) {
        if (isIn(what, 10, 29)) {
            int l = what % 10;
            if (!now.hasLooker(l)) {
                return NONE;
            }
            return what < 20 ? now.eyes[l] : now.patience[l];
        }
        switch (what) {
            case 0:
                return now.toldCount();
            case 1:
                return now.lookersTold;
            case 2:
                return now.lampsLeft;
            case 3:
                return inUse.count;
            case 4:
                return rules.code.clauses;
            case 5:
                return tapeLength;
            case 6:
                return now.x;
            case 7:
                return now.clues.size;
            case 8:
                return now.sureCount();
            case 9:
                return now.links.size;
            case 30:
                return now.wrongCount();
            default:
                return NONE;
        }
    }

    // ---- fractions ----

    /** What stands above or below the line of a fraction, without a common divisor. */
    private static long partOf(long above, long below, boolean isAbove) {
        long divisor = commonDivisor(Math.abs(above), below);
        if (divisor == 0) {
            return 0;
        }
        return isAbove ? above / divisor : below / divisor;
    }

    private static long commonDivisor(long a, long b) {
        long more = a;
        long less = b;
        // Two longs need fewer than a hundred steps.
        for (int k = 0; k < 100 && less != 0; k++) {
            long rest = more % less;
            more = less;
            less = rest;
        }
        return more;
    }

    /** One of the SLIDES 0 to 31, told or not. */
    private static final class Slide {
        final int number;
        final int[] picture;
        boolean told;
        int kind;
        int maker;
        int worth;
        int taken;
        int way;
        /** The WAYS that are ALIKE 0, as bits. */
        int alike;
        /** Where its dot is SHOWN, if it is a SURE one. */
        int corner;

        Slide(int number) {
            this.number = number;
            picture = new int[SIGNS];
            corner = NONE;
        }

        void tell(int[] signs, int newKind, int newMaker, int newWorth) {
            System.arraycopy(signs, 0, picture, 0, SIGNS);
            told = true;
            kind = newKind;
            maker = newMaker;
            worth = newWorth;
            taken = 0;
            way = 0;
            alike = 0;
            for (int w = 0; w < WAYS; w++) {
                alike |= looksRightBy(w) ? 1 << w : 0;
            }
        }

        private boolean looksRightBy(int w) {
            for (int k = 0; k < SIGNS; k++) {
                if (signBy(w, k % SIDE, k / SIDE) != picture[k]) {
                    return false;
                }
            }
            return true;
        }

        /** The sign at a place as it is seen by a WAY; NONE at places that are not there. */
        int signBy(int w, int x, int y) {
            if (!isIn(x, 0, SIDE - 1) || !isIn(y, 0, SIDE - 1)) {
                return NONE;
            }
            int fromX = x;
            int fromY = y;
            for (int quarter = w & 3; quarter > 0; quarter--) {
                int turned = fromX;
                fromX = fromY;
                fromY = SIDE - 1 - turned;
            }
            if (w >= MIRROR) {
                fromX = SIDE - 1 - fromX;
            }
            return picture[fromY * SIDE + fromX];
        }

        boolean isRightBy(int w) {
            return (alike >> w & 1) != 0;
        }

        void copyFrom(Slide other) {
            System.arraycopy(other.picture, 0, picture, 0, SIGNS);
            told = other.told;
            kind = other.kind;
            maker = other.maker;
            worth = other.worth;
            taken = other.taken;
            way = other.way;
            alike = other.alike;
            corner = other.corner;
        }
    }

    /** Told twos of SLIDES: CLUES or LINKS. */
    private static final class Pairs {
        final int[] first;
        final int[] second;
        int size;

        Pairs(int most) {
            int room = Math.max(most, 0);
            first = new int[room];
            second = new int[room];
        }

        int add(int i, int j) {
            if (size >= first.length) {
                return NONE;
            }
            first[size] = i;
            second[size] = j;
            size++;
            return size;
        }

        void dropWith(int i) {
            int left = 0;
            for (int k = 0; k < size; k++) {
                if (first[k] != i && second[k] != i) {
                    first[left] = first[k];
                    second[left] = second[k];
                    left++;
                }
            }
            size = left;
        }

        void copyFrom(Pairs other) {
            size = Math.min(other.size, first.length);
            System.arraycopy(other.first, 0, first, 0, size);
            System.arraycopy(other.second, 0, second, 0, size);
        }
    }

    /** All that is KEPT and UNDONE. */
    private static final class State {
        final Slide[] slides;
        int lookersTold;
        final int[] eyes;
        final int[] patience;
        int lampsLeft;
        final Pairs clues;
        final Pairs links;
        int x;

        State() {
            slides = new Slide[SLIDES];
            for (int i = 0; i < SLIDES; i++) {
                slides[i] = new Slide(i);
            }
            eyes = new int[LOOKERS];
            patience = new int[LOOKERS];
            lampsLeft = 1;
            clues = new Pairs(CLUES);
            links = new Pairs(LINKS);
            x = 1;
        }

        Slide toldSlide(int i) {
            return isIn(i, 0, SLIDES - 1) && slides[i].told ? slides[i] : null;
        }

        boolean hasLooker(int l) {
            return isIn(l, 0, LOOKERS - 1) && (lookersTold >> l & 1) != 0;
        }

        int toldCount() {
            int told = 0;
            for (int i = 0; i < SLIDES; i++) {
                told += slides[i].told ? 1 : 0;
            }
            return told;
        }

        int wrongCount() {
            int wrong = 0;
            for (int i = 0; i < SLIDES; i++) {
                wrong += slides[i].told && !slides[i].isRightBy(slides[i].way) ? 1 : 0;
            }
            return wrong;
        }

        int sureCount() {
            int sure = 0;
            for (int i = 0; i < SLIDES; i++) {
                sure += slides[i].corner != NONE ? 1 : 0;
            }
            return sure;
        }

        void copyFrom(State other) {
            for (int i = 0; i < SLIDES; i++) {
                slides[i].copyFrom(other.slides[i]);
            }
            lookersTold = other.lookersTold;
            System.arraycopy(other.eyes, 0, eyes, 0, LOOKERS);
            System.arraycopy(other.patience, 0, patience, 0, LOOKERS);
            lampsLeft = other.lampsLeft;
            clues.copyFrom(other.clues);
            links.copyFrom(other.links);
            x = other.x;
        }
    }

    /** THE TRAY, and the reading of its text. */
    private static final class TrayText {
        final int[] slots;
        /** While a text is read, more than there are slots. */
        int count;
        private int[] text;
        private int end;
        private int at;
        private int fault;

        TrayText() {
            slots = new int[TRAY_SLIDES];
            text = slots;
        }

        int slideAt(int k) {
            return k >= 0 && k < count && k < TRAY_SLIDES ? slots[k] : NONE;
        }

        boolean has(int slide) {
            for (int k = 0; k < count && k < TRAY_SLIDES; k++) {
                if (slots[k] == slide) {
                    return true;
                }
            }
            return false;
        }

        /** How many SLIDES, or the FAULT. */
        int read(int[] bytes, int length) {
            text = bytes;
            end = Math.min(length, bytes.length);
            at = 0;
            fault = 0;
            count = 0;
            readItems(0);
            if (at < end) {
                fail(WRONG_SIGN, at);
            }
            return fault == 0 ? count : fault;
        }

        private void readItems(int depth) {
            boolean isMore = true;
            for (int k = 0; k <= TRAY_BYTES && isMore; k++) {
                readItem(depth);
                isMore = fault == 0 && sign() == ',';
                at += isMore ? 1 : 0;
            }
        }

        private void readItem(int depth) {
            int start = at;
            if (sign() == '(') {
                readRounds(depth);
            } else {
                readRow();
            }
            if (count > TRAY_SLIDES) {
                fail(SLIDES_MORE, start);
            }
        }

        private void readRounds(int depth) {
            if (depth >= TRAY_DEPTH) {
                fail(TOO_DEEP, at);
                return;
            }
            at++;
            int from = count;
            readItems(depth + 1);
            if (fault != 0) {
                return;
            }
            if (sign() != ')') {
                fail(WRONG_SIGN, at);
                return;
            }
            at++;
            int times = sign() - '0';
            if (!isIn(times, 2, 9)) {
                fail(WRONG_SIGN, at);
                return;
            }
            at++;
            repeat(from, count, times);
        }

        private void repeat(int from, int to, int times) {
            for (int round = 1; round < times; round++) {
                for (int k = from; k < to; k++) {
                    append(slideAt(k));
                }
            }
        }

        private void readRow() {
            int first = readNumber();
            int last = first;
            if (fault == 0 && sign() == '-') {
                at++;
                last = readNumber();
            }
            if (fault != 0) {
                return;
            }
            int step = first <= last ? 1 : -1;
            int many = Math.abs(last - first) + 1;
            for (int k = 0; k < many; k++) {
                append(first + k * step);
            }
        }

        private int readNumber() {
            int start = at;
            int number = 0;
            for (int k = 0; k < 2 && isIn(sign(), '0', '9'); k++) {
                number = 10 * number + sign() - '0';
                at++;
            }
            if (at == start) {
                fail(WRONG_SIGN, at);
            } else if (number >= SLIDES) {
                fail(NUMBER_ABOVE, start);
            }
            return number;
        }

        private void append(int slide) {
            if (count < TRAY_SLIDES) {
                slots[count] = slide;
            }
            count++;
        }

        private int sign() {
            return at < end ? text[at] : NONE;
        }

        private void fail(int number, int place) {
            // What is found first stands: the reading goes from the left on.
            if (fault == 0) {
                fault = -1000 * number - place;
            }
        }
    }

    /** Reads a LAW's text into code, from the left on, without looking ahead. */
    private static final class LawReader {
        private int[] text;
        private int end;
        private int at;
        private int fault;
        private LawCode code;

        LawReader(LawCode target) {
            text = new int[0];
            code = target;
        }

        /** How many CLAUSES, or the FAULT. */
        int read(int[] bytes, int length, LawCode target) {
            text = bytes;
            end = Math.min(length, bytes.length);
            at = 0;
            fault = 0;
            code = target;
            code.clear();
            boolean isMore = true;
            for (int k = 0; k <= LAW_CLAUSES && isMore; k++) {
                readClause();
                isMore = fault == 0 && at < end;
                if (isMore) {
                    expect(';');
                }
            }
            return fault == 0 ? code.clauses : fault;
        }

        private void readClause() {
            int letter = sign();
            if (letter == NONE || Law.LETTERS.indexOf((char) letter) < 0) {
                fail(WRONG_SIGN);
                return;
            }
            if (!code.openClause(letter)) {
                fail(CLAUSE_MORE);
                return;
            }
            at++;
            readSum(0);
            code.startCondition();
            expect('(');
            readCondition(1);
            expect(')');
            code.closeClause();
        }

        private void readCondition(int depth) {
            readPart(depth);
            for (int k = 0; k < LAW_BYTES && fault == 0 && sign() == '|'; k++) {
                at++;
                int jump = code.emit(LawCode.OR, 0);
                readPart(depth);
                code.landHere(jump);
            }
        }

        private void readPart(int depth) {
            readPiece(depth);
            for (int k = 0; k < LAW_BYTES && fault == 0 && sign() == '&'; k++) {
                at++;
                int jump = code.emit(LawCode.AND, 0);
                readPiece(depth);
                code.landHere(jump);
            }
        }

        private void readPiece(int depth) {
            if (fault != 0) {
                return;
            }
            if (sign() == '!') {
                if (isOpened(depth)) {
                    readPiece(depth + 1);
                    code.emit(LawCode.NOT, 0);
                }
            } else if (sign() == '(') {
                if (isOpened(depth)) {
                    readCondition(depth + 1);
                    expect(')');
                }
            } else {
                readComparison(depth);
            }
        }

        private void readComparison(int depth) {
            readSum(depth);
            int operation = operationOf("<>=", LawCode.LESS);
            if (operation == NONE) {
                fail(WRONG_SIGN);
                return;
            }
            at++;
            readSum(depth);
            code.emit(operation, 0);
        }

        private void readSum(int depth) {
            readTerm(depth);
            int operation = operationOf("+-", LawCode.PLUS);
            for (int k = 0; k < LAW_BYTES && operation != NONE; k++) {
                at++;
                readTerm(depth);
                code.emit(operation, 0);
                operation = operationOf("+-", LawCode.PLUS);
            }
        }

        private void readTerm(int depth) {
            readFactor(depth);
            int operation = operationOf("*/%", LawCode.TIMES);
            for (int k = 0; k < LAW_BYTES && operation != NONE; k++) {
                at++;
                readFactor(depth);
                code.emit(operation, 0);
                operation = operationOf("*/%", LawCode.TIMES);
            }
        }

        private void readFactor(int depth) {
            if (fault != 0) {
                return;
            }
            int sign = sign();
            int fact = sign == NONE ? NONE : Law.FACTS.indexOf((char) sign);
            if (sign == '[') {
                if (isOpened(depth)) {
                    readSum(depth + 1);
                    expect(']');
                }
            } else if (isIn(sign, '0', '9')) {
                readNumber();
            } else if (fact >= 0) {
                at++;
                code.emit(LawCode.FACT, fact);
            } else {
                fail(WRONG_SIGN);
            }
        }

        private void readNumber() {
            int number = 0;
            for (int k = 0; k < LAW_DIGITS && isIn(sign(), '0', '9'); k++) {
                number = 10 * number + sign() - '0';
                at++;
            }
            if (isIn(sign(), '0', '9')) {
                fail(SIXTH_DIGIT);
                return;
            }
            code.emit(LawCode.NUMBER, number);
        }

        /** Which of some signs stands here, counted on from the operation of the first. */
        private int operationOf(String signs, int first) {
            int sign = sign();
            int place = sign == NONE || fault != 0 ? NONE : signs.indexOf((char) sign);
            return place < 0 ? NONE : first + place;
        }

        private boolean isOpened(int depth) {
            if (depth >= LAW_DEPTH) {
                fail(TOO_DEEP);
                return false;
            }
            at++;
            return true;
        }

        private void expect(int sign) {
            if (fault == 0 && sign() != sign) {
                fail(WRONG_SIGN);
            }
            at += fault == 0 ? 1 : 0;
        }

        private int sign() {
            return at < end ? text[at] : NONE;
        }

        private void fail(int number) {
            if (fault == 0) {
                fault = -1000 * number - at;
            }
        }
    }

    /** A LAW as rows of steps over a stack: behind one another, so that long sums need no depth. */
    private static final class LawCode {
        static final int NUMBER = 0;
        static final int FACT = 1;
        static final int PLUS = 2;
        static final int MINUS = 3;
        static final int TIMES = 4;
        static final int DIVIDED = 5;
        static final int REST = 6;
        static final int LESS = 7;
        static final int MORE = 8;
        static final int SAME = 9;
        static final int NOT = 10;
        static final int AND = 11;
        static final int OR = 12;
        private static final int STACK = 40;

        int clauses;
        private int size;
        private boolean isRefused;
        private final int[] operations;
        private final int[] operands;
        private final int[] letters;
        private final int[] starts;
        private final int[] conditions;
        private final int[] ends;
        private final int[] stack;

        LawCode() {
            operations = new int[LAW_BYTES];
            operands = new int[LAW_BYTES];
            letters = new int[LAW_CLAUSES];
            starts = new int[LAW_CLAUSES];
            conditions = new int[LAW_CLAUSES];
            ends = new int[LAW_CLAUSES];
            stack = new int[STACK];
        }

        void clear() {
            clauses = 0;
            size = 0;
        }

        boolean openClause(int letter) {
            if (clauses >= LAW_CLAUSES) {
                return false;
            }
            letters[clauses] = letter;
            starts[clauses] = size;
            return true;
        }

        void startCondition() {
            if (clauses < LAW_CLAUSES) {
                conditions[clauses] = size;
            }
        }

        void closeClause() {
            if (clauses < LAW_CLAUSES) {
                ends[clauses] = size;
                clauses++;
            }
        }

        /** Where the step stands; each takes at least one byte of the text, so there is room. */
        int emit(int operation, int operand) {
            if (size >= LAW_BYTES) {
                return NONE;
            }
            operations[size] = operation;
            operands[size] = operand;
            size++;
            return size - 1;
        }

        void landHere(int jump) {
            if (isIn(jump, 0, LAW_BYTES - 1)) {
                operands[jump] = size;
            }
        }

        /** By the first CLAUSE of a letter that holds, between 0 and the most. */
        int valueOf(int letter, int most, int[] facts) {
            for (int c = 0; c < clauses && c < LAW_CLAUSES; c++) {
                if (letters[c] == letter && reckon(conditions[c], ends[c], facts) != 0) {
                    int value = reckon(starts[c], conditions[c], facts);
                    return Math.max(0, Math.min(value, most));
                }
            }
            return 0;
        }

        /** What some steps come to: 0, as one that does not hold, too, if it is REFUSED. */
        private int reckon(int from, int to, int[] facts) {
            int top = -1;
            isRefused = false;
            for (int at = from; at < to && at < LAW_BYTES; at++) {
                int operation = operations[at];
                int operand = operands[at];
                if (operation == NUMBER || operation == FACT) {
                    if (top + 1 >= STACK || operation == FACT && !isIn(operand, 0, facts.length - 1)) {
                        return 0;
                    }
                    top++;
                    stack[top] = operation == NUMBER ? operand : facts[operand];
                } else if (top < 0) {
                    return 0;
                } else if (operation == NOT) {
                    stack[top] = 1 - stack[top];
                } else if (operation == AND || operation == OR) {
                    // A first one that decides stays as what both are; the second one is not asked.
                    boolean decides = (stack[top] != 0) == (operation == OR);
                    at = decides ? Math.max(at, operand - 1) : at;
                    top -= decides ? 0 : 1;
                } else if (top < 1) {
                    return 0;
                } else {
                    top--;
                    stack[top] = joined(operation, stack[top], stack[top + 1]);
                }
                if (isRefused) {
                    return 0;
                }
            }
            return top < 0 ? 0 : stack[top];
        }

        private int joined(int operation, int a, int b) {
            switch (operation) {
                case PLUS:
                    return a + b;
                case MINUS:
                    return a - b;
                case TIMES:
                    return a * b;
                case LESS:
                    return a < b ? 1 : 0;
                case MORE:
                    return a > b ? 1 : 0;
                case SAME:
                    return a == b ? 1 : 0;
                default:
                    isRefused = b == 0;
                    if (isRefused) {
                        return 0;
                    }
                    return operation == DIVIDED ? a / b : a % b;
            }
        }
    }

    /** THE LAW as it is asked: each question brings what its letters stand for. */
    private static final class Law {
        static final String LETTERS = "wnstjxpb";
        static final String FACTS = "ikayqmovlez";

        LawCode code;
        LawCode spare;
        private final int[] facts;

        Law() {
            code = new LawCode();
            spare = new LawCode();
            facts = new int[11];
        }

        void useSpare() {
            LawCode before = code;
            code = spare;
            spare = before;
        }

        private void setFacts(Slide slide, int way, int shownBefore) {
            facts[0] = slide.number;
            facts[1] = slide.kind;
            facts[2] = slide.maker;
            facts[3] = slide.taken;
            facts[4] = way & 3;
            facts[5] = way >= MIRROR ? 1 : 0;
            facts[6] = shownBefore;
            facts[7] = slide.worth;
            setLooker(0, 0, 0);
        }

        private void setLooker(int number, int eyes, int left) {
            facts[8] = number;
            facts[9] = eyes;
            facts[10] = left;
        }

        int often(Slide slide, int way) {
            setFacts(slide, way, 0);
            return code.valueOf('w', 99, facts);
        }

        int oftenOf(Slide slide, int ways) {
            int all = 0;
            for (int way = 0; way < WAYS; way++) {
                all += (ways >> way & 1) != 0 ? often(slide, way) : 0;
            }
            return all;
        }

        int notices(Slide slide, int way, int shownBefore, int number, int eyes, int left) {
            setFacts(slide, way, shownBefore);
            setLooker(number, eyes, left);
            return code.valueOf('n', 10, facts);
        }

        int showSeconds(Slide slide, int way, int shownBefore) {
            setFacts(slide, way, shownBefore);
            return code.valueOf('s', 99, facts);
        }

        int turnSeconds(Slide slide, int turn, int shownBefore) {
            setFacts(slide, turn, shownBefore);
            return code.valueOf('t', 99, facts);
        }

        int jams(Slide slide, int way, int shownBefore) {
            setFacts(slide, way, shownBefore);
            return code.valueOf('j', 10, facts);
        }

        int pops(Slide slide, int way, int shownBefore) {
            setFacts(slide, way, shownBefore);
            return code.valueOf('x', 10, facts);
        }

        int pence(Slide slide) {
            setFacts(slide, slide.way, 0);
            return code.valueOf('p', 999, facts);
        }

        int boxSeconds(Slide slide) {
            setFacts(slide, slide.way, 0);
            return code.valueOf('b', 999, facts);
        }
    }

    /** An EVENING gone through beside the state, which only leaveIn changes. */
    private static final class Evening {
        int seconds;
        int shownCount;
        int noticed;
        int turns;
        int jams;
        int pops;
        int awake;
        private int x;
        private int lampsLeft;
        private final int[] waysIn;
        private final int[] patienceLeft;

        Evening() {
            waysIn = new int[SLIDES];
            patienceLeft = new int[LOOKERS];
        }

        void goThrough(State state, Law rules, TrayText row) {
            begin(state);
            for (int k = 0; k < row.count && lampsLeft > 0; k++) {
                Slide slide = state.toldSlide(row.slideAt(k));
                if (slide != null) {
                    showOne(slide, state, rules);
                }
            }
        }

        private void begin(State state) {
            seconds = 0;
            shownCount = 0;
            noticed = 0;
            turns = 0;
            jams = 0;
            pops = 0;
            awake = 0;
            x = state.x;
            lampsLeft = state.lampsLeft;
            for (int i = 0; i < SLIDES; i++) {
                waysIn[i] = state.slides[i].way;
            }
            for (int l = 0; l < LOOKERS; l++) {
                patienceLeft[l] = state.patience[l];
                awake |= state.hasLooker(l) && patienceLeft[l] > 0 ? 1 << l : 0;
            }
        }

        private void showOne(Slide slide, State state, Law rules) {
            int i = slide.number;
            int spent = rules.showSeconds(slide, waysIn[i], shownCount);
            if (!slide.isRightBy(waysIn[i]) && isNoticed(slide, state, rules)) {
                noticed++;
                spent += turnIt(slide, rules);
            }
            if (draw() < rules.pops(slide, waysIn[i], shownCount)) {
                pops++;
                lampsLeft--;
            }
            tire(spent);
            seconds += spent;
            shownCount++;
        }

        private boolean isNoticed(Slide slide, State state, Law rules) {
            boolean isSeen = false;
            for (int l = 0; l < LOOKERS; l++) {
                if ((awake >> l & 1) != 0) {
                    int way = waysIn[slide.number];
                    int tenths = rules.notices(slide, way, shownCount, l, state.eyes[l], patienceLeft[l]);
                    isSeen |= draw() < tenths;
                }
            }
            return isSeen;
        }

        private int turnIt(Slide slide, Law rules) {
            int i = slide.number;
            int first = waysIn[i];
            int spent = 0;
            boolean isOver = false;
            for (int turn = 1; turn < WAYS && !isOver; turn++) {
                spent += rules.turnSeconds(slide, turn, shownCount);
                turns++;
                // It is SHOWN by each WAY that is tried, so that is the one it is IN when it jams.
                waysIn[i] = wayThen(first, turn);
                boolean isJammed = draw() < rules.jams(slide, waysIn[i], shownCount);
                jams += isJammed ? 1 : 0;
                isOver = isJammed || slide.isRightBy(waysIn[i]);
            }
            return spent;
        }

        private void tire(int spent) {
            for (int l = 0; l < LOOKERS; l++) {
                if ((awake >> l & 1) != 0) {
                    patienceLeft[l] -= spent;
                    awake ^= patienceLeft[l] <= 0 ? 1 << l : 0;
                }
            }
        }

        private int draw() {
            x = nextDraw(x);
            return x % 10;
        }

        int wrongOf(State state) {
            int wrong = 0;
            for (int i = 0; i < SLIDES; i++) {
                wrong += state.slides[i].told && !state.slides[i].isRightBy(waysIn[i]) ? 1 : 0;
            }
            return wrong;
        }

        /** PATIENCE is not taken along: who slept is awake again at the next EVENING. */
        void leaveIn(State state) {
            for (int i = 0; i < SLIDES; i++) {
                state.slides[i].way = waysIn[i];
            }
            state.lampsLeft = lampsLeft;
            state.x = x;
        }
    }

    /**
     * The row of turns by which an unknown WAY is right soonest. Which first WAYS are right by now
     * depends only on the set of WAYS that have been gone through, so the least is found set by set.
     */
    private static final class TurnRow {
        private static final int SETS = 256;

        int allOften;
        private final int[] often;
        private final int[] turnSeconds;
        /** First WAYS that are right, when the turns made so far come to this WAY. */
        private final int[] rightBy;
        /** How often it is still not right, by the set of WAYS gone through. */
        private final int[] open;
        /** Fewest seconds from here on, by the set and by the last one of it. */
        private final int[] fewest;
        private final int[] row;

        TurnRow() {
            often = new int[WAYS];
            turnSeconds = new int[WAYS];
            rightBy = new int[WAYS];
            open = new int[SETS];
            fewest = new int[SETS * WAYS];
            row = new int[WAYS - 1];
        }

        int least() {
            return fewest[WAYS];
        }

        int turnAt(int place) {
            return isIn(place, 0, WAYS - 2) ? row[place] : NONE;
        }

        void find(Slide slide, Law rules) {
            ask(slide, rules);
            if (allOften == 0) {
                return;
            }
            // Each set has WAY 0 in it, for before the first turn; more of them come first.
            for (int set = ALL_WAYS; set > 0; set -= 2) {
                open[set] = oftenNotRight(set);
                for (int last = 0; last < WAYS; last++) {
                    if ((set >> last & 1) != 0) {
                        fewest[set * WAYS + last] = fewestFrom(set, last);
                    }
                }
            }
            layRow();
        }

        private void ask(Slide slide, Law rules) {
            allOften = 0;
            for (int way = 0; way < WAYS; way++) {
                often[way] = rules.often(slide, way);
                allOften += often[way];
                turnSeconds[way] = rules.turnSeconds(slide, way, 0);
                rightBy[way] = 0;
                for (int first = 0; first < WAYS; first++) {
                    rightBy[way] |= slide.isRightBy(wayThen(first, way)) ? 1 << first : 0;
                }
            }
        }

        private int oftenNotRight(int set) {
            int right = 0;
            for (int way = 0; way < WAYS; way++) {
                right |= (set >> way & 1) != 0 ? rightBy[way] : 0;
            }
            int left = 0;
            for (int first = 0; first < WAYS; first++) {
                left += (right >> first & 1) != 0 ? 0 : often[first];
            }
            return left;
        }

        private int fewestFrom(int set, int last) {
            int least = NONE;
            for (int next = 0; next < WAYS; next++) {
                if ((set >> next & 1) == 0) {
                    int seconds = secondsBy(set, last, next);
                    least = least == NONE || seconds < least ? seconds : least;
                }
            }
            return Math.max(least, 0);
        }

        private int secondsBy(int set, int last, int next) {
            int turn = turnBetween(last, next);
            return open[set] * turnSeconds[turn] + fewest[(set | 1 << next) * WAYS + next];
        }

        private void layRow() {
            int set = 1;
            int last = 0;
            for (int place = 0; place < WAYS - 1; place++) {
                int turn = leastTurn(set, last);
                row[place] = turn;
                last = wayThen(last, turn);
                set |= 1 << last;
            }
        }

        private int leastTurn(int set, int last) {
            for (int turn = 1; turn < WAYS; turn++) {
                int next = wayThen(last, turn);
                boolean isNew = (set >> next & 1) == 0;
                if (isNew && secondsBy(set, last, next) == fewest[set * WAYS + last]) {
                    return turn;
                }
            }
            return 0;
        }
    }

    /** The set of at most twelve SLIDES that gains most within some seconds. */
    private static final class Choice {
        int bestBits;
        int bestSeconds;
        long bestGain;
        private int size;
        private final int[] numbers;
        private final int[] seconds;
        private final long[] gains;
        /** Which others must be in the set with it. */
        private final int[] needs;

        Choice() {
            numbers = new int[MANY];
            seconds = new int[MANY];
            gains = new long[MANY];
            needs = new int[MANY];
        }

        void clear() {
            size = 0;
        }

        boolean hasRoom() {
            return size < MANY;
        }

        void add(int number, int takes, long gain) {
            if (hasRoom()) {
                numbers[size] = number;
                seconds[size] = takes;
                gains[size] = gain;
                needs[size] = 0;
                size++;
            }
        }

        void bind(Pairs links) {
            for (int k = 0; k < links.size; k++) {
                int only = placeOf(links.second[k]);
                int with = placeOf(links.first[k]);
                if (only != NONE) {
                    // One that is not here is a bit that no set has.
                    needs[only] |= 1 << (with == NONE ? MANY : with);
                }
            }
        }

        private int placeOf(int number) {
            for (int k = 0; k < size; k++) {
                if (numbers[k] == number) {
                    return k;
                }
            }
            return NONE;
        }

        void find(int limit) {
            bestBits = 0;
            bestSeconds = 0;
            bestGain = 0;
            int takes = 0;
            long gain = 0;
            for (int bits = 1; bits < 1 << size; bits++) {
                // Counting on by one takes the low ones out and puts the next one in.
                int next = 0;
                for (; next < size - 1 && (bits >> next & 1) == 0; next++) {
                    takes -= seconds[next];
                    gain -= gains[next];
                }
                takes += seconds[next];
                gain += gains[next];
                if (gain > bestGain && takes <= limit && areNeedsIn(bits)) {
                    bestBits = bits;
                    bestSeconds = takes;
                    bestGain = gain;
                }
            }
        }

        private boolean areNeedsIn(int bits) {
            for (int k = 0; k < size; k++) {
                if ((bits >> k & 1) != 0 && (needs[k] & ~bits) != 0) {
                    return false;
                }
            }
            return true;
        }
    }

    /** The orders of SPILT SLIDES that fit the CLUES, counted by the sets that can stand ahead. */
    private static final class Orders {
        int tellingLow;
        int tellingHigh;
        int tellingLesser;
        private int size;
        private final int[] numbers;
        private final int[] places;
        /** Which must be ahead of each. */
        private final int[] ahead;
        /** In how many orders a set can stand first, and what is not in it last. */
        private final int[] waysFirst;
        private final int[] waysLast;
        private final int[] lowAhead;

        Orders() {
            numbers = new int[MANY];
            places = new int[SLIDES];
            ahead = new int[MANY];
            waysFirst = new int[1 << MANY];
            waysLast = new int[1 << MANY];
            lowAhead = new int[MANY * MANY];
        }

        /** False, if one is not told or is there twice. */
        boolean take(int[] tape, int n, State state) {
            int members = 0;
            for (int k = 0; k < n && k < tape.length; k++) {
                Slide slide = state.toldSlide(tape[k]);
                if (slide == null || (members >>> slide.number & 1) != 0) {
                    return false;
                }
                members |= 1 << slide.number;
            }
            size = 0;
            for (int i = 0; i < SLIDES; i++) {
                places[i] = NONE;
                if ((members >>> i & 1) != 0 && size < MANY) {
                    numbers[size] = i;
                    ahead[size] = 0;
                    places[i] = size;
                    size++;
                }
            }
            takeClues(state.clues);
            return true;
        }

        private void takeClues(Pairs clues) {
            for (int k = 0; k < clues.size; k++) {
                if (has(clues.first[k]) && has(clues.second[k])) {
                    ahead[places[clues.second[k]]] |= 1 << places[clues.first[k]];
                }
            }
        }

        boolean has(int i) {
            return isIn(i, 0, SLIDES - 1) && places[i] != NONE;
        }

        private boolean canFollow(int k, int set) {
            return (set >> k & 1) == 0 && (ahead[k] & ~set) == 0;
        }

        int countAll() {
            int all = (1 << size) - 1;
            for (int set = 1; set <= all; set++) {
                waysFirst[set] = 0;
            }
            waysFirst[0] = 1;
            for (int set = 0; set < all; set++) {
                for (int k = 0; k < size && waysFirst[set] != 0; k++) {
                    if (canFollow(k, set)) {
                        waysFirst[set | 1 << k] += waysFirst[set];
                    }
                }
            }
            return waysFirst[all];
        }

        private void countLast() {
            int all = (1 << size) - 1;
            waysLast[all] = 1;
            for (int set = all - 1; set >= 0; set--) {
                int ways = 0;
                for (int k = 0; k < size; k++) {
                    ways += canFollow(k, set) ? waysLast[set | 1 << k] : 0;
                }
                waysLast[set] = ways;
            }
        }

        /** The SLIDE at a place of the least row; some order must fit. */
        int firstAt(int place) {
            int set = 0;
            int found = NONE;
            for (int at = 0; at <= place && at < size; at++) {
                found = NONE;
                for (int k = 0; k < size && found == NONE; k++) {
                    found = canFollow(k, set) ? k : NONE;
                }
                set |= found == NONE ? 0 : 1 << found;
            }
            return found == NONE ? NONE : numbers[found];
        }

        int countAhead(int i, int j) {
            if (!has(i) || !has(j)) {
                return 0;
            }
            ahead[places[j]] |= 1 << places[i];
            return countAll();
        }

        /** The two of which the lesser count is most; 0, if no two are open. */
        void findTelling() {
            int all = countAll();
            tellingLesser = 0;
            tellingLow = NONE;
            tellingHigh = NONE;
            if (all == 0) {
                return;
            }
            countLast();
            countLowAhead();
            for (int low = 0; low < size; low++) {
                for (int high = low + 1; high < size; high++) {
                    int before = lowAhead[low * MANY + high];
                    int lesser = Math.min(before, all - before);
                    if (lesser > tellingLesser) {
                        tellingLesser = lesser;
                        tellingLow = numbers[low];
                        tellingHigh = numbers[high];
                    }
                }
            }
        }

        private void countLowAhead() {
            for (int k = 0; k < lowAhead.length; k++) {
                lowAhead[k] = 0;
            }
            int all = (1 << size) - 1;
            for (int set = 0; set < all; set++) {
                for (int k = 0; k < size && waysFirst[set] != 0; k++) {
                    if (canFollow(k, set)) {
                        addAheadOfRest(k, set | 1 << k);
                    }
                }
            }
        }

        private void addAheadOfRest(int low, int set) {
            int many = waysFirst[set ^ 1 << low] * waysLast[set];
            for (int high = low + 1; high < size; high++) {
                lowAhead[low * MANY + high] += (set >> high & 1) == 0 ? many : 0;
            }
        }
    }
}
