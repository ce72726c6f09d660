import java.util.ArrayList;
import java.util.Arrays;

/**
 * A house of comics: pages of panels with figures and balloons, the facts that its issues tell,
 * and the work on its pages up to the press.
 */
public final class Panelry {
    /** There is none. */
    public static final int NONE = -1;

    private static final int PAGE_WIDTH = 60;
    private static final int PAGE_HEIGHT = 80;
    private static final int MAX_PAGES = 8;
    private static final int MAX_PANELS = 8;
    private static final int MAX_FIGURES = 12;
    private static final int MAX_BALLOONS = 20;
    private static final int MAX_TELLINGS = 40;

    private static final int MIN_PANEL_SIDE = 4;
    private static final int MIN_FACE_SIDE = 2;
    private static final int MAX_FACE_SIDE = 20;
    private static final int MIN_BALLOON_SIDE = 2;
    private static final int MAX_LETTERS = 200;
    private static final int AREA_OF_LETTER = 4;
    private static final int LAST_WEAR = 9;

    private static final int OUTSIDE_PANEL = 1;
    private static final int OVER_BALLOON = 2;
    private static final int OVER_FACE = 4;
    private static final int WITHOUT_SPEAKER = 8;
    private static final int TAIL_HIT = 16;
    private static final int LETTERS_TIGHT = 32;
    private static final int OUT_OF_TURN = 64;

    private static final int LAST_FACT = 9;
    private static final int LAST_TIME = 99;
    private static final int LAST_VALUE = 9;
    private static final int LAST_WEEK = 200;

    private static final int MAX_WORKERS = 5;
    private static final int MAX_WEEKS_TO_PASS = 50;
    private static final int LAST_STAGE = 4;

    private static final int PRINT_WEEK = 0;
    private static final int PRINT_PANELS = 1;
    private static final int PRINT_LETTERS = 2;
    private static final int PRINT_READING = 3;
    private static final int LAST_PRINT_ANSWER = PRINT_READING + MAX_PANELS - 1;

    private final ArrayList<Page> pages = new ArrayList<>();
    private final ArrayList<Telling> tellings = new ArrayList<>();
    private int figureCount;
    private int week;
    private int workerCount = 1;

    public Panelry() {
    }

    // ---- pages, panels

    public int page(boolean isLeftward) throws IllegalStateException {
        requireRoomForPage();
        return addPage(new Page(isLeftward));
    }

    public int panel(int page, int x, int y, int width, int height)
            throws IndexOutOfBoundsException, IllegalArgumentException, IllegalStateException {
        Page on = existingPage(page);
        requireRange(x, 0, PAGE_WIDTH - 1);
        requireRange(y, 0, PAGE_HEIGHT - 1);
        requireRange(width, MIN_PANEL_SIDE, PAGE_WIDTH);
        requireRange(height, MIN_PANEL_SIDE, PAGE_HEIGHT);
        Box box = new Box(x, y, width, height);
        if (!box.isOnPage()) {
            throw new IllegalArgumentException("the panel does not lie on the page");
        }
        requireUnprinted(on);
        if (on.panels.size() >= MAX_PANELS) {
            throw new IllegalStateException("the page has all its panels");
        }
        if (on.hasPanelOver(box)) {
            throw new IllegalStateException("the panel overlaps another one");
        }
        on.panels.add(new Panel(box));
        return on.panels.size() - 1;
    }

    public boolean turn(int page, boolean isLeftward) throws IndexOutOfBoundsException, IllegalStateException {
        Page turned = existingPage(page);
        requireUnprinted(turned);
        boolean wasLeftward = turned.isLeftward;
        turned.isLeftward = isLeftward;
        return wasLeftward;
    }

    public int read(int page, boolean isLeftward, int at) throws IndexOutOfBoundsException {
        Page found = existingPage(page);
        if (at < 0 || at >= found.panels.size()) {
            throw new IndexOutOfBoundsException("no such place in the reading");
        }
        return Reading.of(found, isLeftward).panelAt(at);
    }

    public int doubts(int page) throws IndexOutOfBoundsException {
        Page found = existingPage(page);
        return Reading.of(found, found.isLeftward).doubtCount;
    }

    public int orders(int page, boolean isLeftward) throws IndexOutOfBoundsException {
        Page found = existingPage(page);
        return countOrders(found, found.allPanels(), isLeftward, 0);
    }

    public boolean isOne(int page, boolean isLeftward) throws IndexOutOfBoundsException {
        return Reading.of(existingPage(page), isLeftward).keepsAhead();
    }

    public int mirror(int page) throws IndexOutOfBoundsException, IllegalStateException {
        Page shown = existingPage(page);
        requireRoomForPage();
        return addPage(shown.mirrored());
    }

    // ---- figures, balloons

    public int figure() throws IllegalStateException {
        if (figureCount >= MAX_FIGURES) {
            throw new IllegalStateException("the house has all its figures");
        }
        figureCount++;
        return figureCount - 1;
    }

    public void draw(int page, int panel, int figure, int x, int y, int side, int wears, boolean changes)
            throws IndexOutOfBoundsException, IllegalArgumentException, IllegalStateException {
        Page on = existingPage(page);
        Panel in = existingPanel(on, panel);
        requireFigure(figure);
        requireRange(side, MIN_FACE_SIDE, MAX_FACE_SIDE);
        requireRange(wears, 0, LAST_WEAR);
        Box box = new Box(x, y, side, side);
        if (!in.box.holds(box)) {
            throw new IllegalArgumentException("the face does not lie within the panel");
        }
        requireUnprinted(on);
        in.putFace(figure, new Face(box, wears, changes));
    }

    public int balloon(int page, int panel, int x, int y, int width, int height, int figure, int letters)
            throws IndexOutOfBoundsException, IllegalArgumentException, IllegalStateException {
        Page on = existingPage(page);
        existingPanel(on, panel);
        if (figure != NONE) {
            requireFigure(figure);
        }
        requireRange(x, 0, PAGE_WIDTH - 1);
        requireRange(y, 0, PAGE_HEIGHT - 1);
        requireRange(width, MIN_BALLOON_SIDE, PAGE_WIDTH);
        requireRange(height, MIN_BALLOON_SIDE, PAGE_HEIGHT);
        requireRange(letters, 1, MAX_LETTERS);
        requireUnprinted(on);
        if (on.balloons.size() >= MAX_BALLOONS) {
            throw new IllegalStateException("the page has all its balloons");
        }
        on.balloons.add(new Balloon(panel, new Box(x, y, width, height), figure, letters));
        return on.balloons.size() - 1;
    }

    public void move(int page, int balloon, int x, int y)
            throws IndexOutOfBoundsException, IllegalArgumentException, IllegalStateException {
        Page on = existingPage(page);
        Balloon moved = existingBalloon(on, balloon);
        requireRange(x, 0, PAGE_WIDTH - 1);
        requireRange(y, 0, PAGE_HEIGHT - 1);
        requireUnprinted(on);
        moved.box = new Box(x, y, moved.box.width, moved.box.height);
    }

    public int faults(int page, int balloon) throws IndexOutOfBoundsException {
        Page on = existingPage(page);
        Balloon looked = existingBalloon(on, balloon);
        Panel in = existingPanel(on, looked.panelNumber);
        int set = 0;
        set |= in.box.holds(looked.box) ? 0 : OUTSIDE_PANEL;
        set |= on.hasBalloonOver(balloon, looked) ? OVER_BALLOON : 0;
        set |= in.hasFaceUnder(looked.box) ? OVER_FACE : 0;
        set |= looked.figure != NONE && in.faceOf(looked.figure) == null ? WITHOUT_SPEAKER : 0;
        set |= on.isTailHit(balloon, looked, in) ? TAIL_HIT : 0;
        set |= looked.fitsItsLetters() ? 0 : LETTERS_TIGHT;
        set |= on.isOutOfTurn(balloon, looked) ? OUT_OF_TURN : 0;
        return set;
    }

    public int breaks() {
        int[] worn = new int[MAX_FIGURES];
        Arrays.fill(worn, NONE);
        int count = 0;
        for (int i = 0; i < pages.size(); i++) {
            count += pages.get(i).countBreaks(worn);
        }
        return count;
    }

    // ---- stories

    public int tell(int fact, int time, int value, boolean isRetcon)
            throws IndexOutOfBoundsException, IllegalArgumentException, IllegalStateException {
        requireFact(fact);
        requireRange(time, 0, LAST_TIME);
        requireRange(value, 0, LAST_VALUE);
        if (tellings.size() >= MAX_TELLINGS) {
            throw new IllegalStateException("the house has all its tellings");
        }
        tellings.add(new Telling(fact, time, value, isRetcon, week));
        return tellings.size() - 1;
    }

    public int known(int fact, int time, int week) throws IndexOutOfBoundsException, IllegalArgumentException {
        requireFact(fact);
        requireRange(time, 0, LAST_TIME);
        requireRange(week, 0, LAST_WEEK);
        Telling believed = null;
        for (int i = 0; i < tellings.size(); i++) {
            Telling next = tellings.get(i);
            if (next.isHeard(fact, time, week) && (believed == null || next.replaces(believed))) {
                believed = next;
            }
        }
        return believed == null ? NONE : believed.value;
    }

    public int contradictions(int fact) throws IndexOutOfBoundsException {
        requireFact(fact);
        int count = 0;
        for (int i = 0; i < tellings.size(); i++) {
            Telling later = tellings.get(i);
            for (int j = 0; j < i; j++) {
                count += later.fact == fact && later.contradicts(tellings.get(j)) ? 1 : 0;
            }
        }
        return count;
    }

    // ---- work

    public int workers(int workers) throws IllegalArgumentException {
        requireRange(workers, 1, MAX_WORKERS);
        int before = workerCount;
        workerCount = workers;
        return before;
    }

    public int pass(int weeks) throws IllegalArgumentException, IllegalStateException {
        requireRange(weeks, 1, MAX_WEEKS_TO_PASS);
        if (week + weeks > LAST_WEEK) {
            throw new IllegalStateException("there are no weeks behind the last one");
        }
        for (int i = 0; i < weeks; i++) {
            workOneWeek();
        }
        return week;
    }

    public int stage(int page) throws IndexOutOfBoundsException {
        return existingPage(page).stage;
    }

    public int press(int page) throws IndexOutOfBoundsException, IllegalStateException {
        Page pressed = existingPage(page);
        if (pressed.stage < LAST_STAGE) {
            throw new IllegalStateException("the page is not at the last stage");
        }
        requireUnprinted(pressed);
        pressed.print = pressed.answersInPrint(week);
        return pressed.panels.size();
    }

    public int printed(int page, int what) throws IndexOutOfBoundsException, IllegalArgumentException {
        int[] print = existingPage(page).print;
        requireRange(what, 0, LAST_PRINT_ANSWER);
        return print == null || what >= print.length ? NONE : print[what];
    }

    // ---- what the calls share

    private static void requireRange(int value, int least, int most) {
        if (value < least || value > most) {
            throw new IllegalArgumentException("an argument is out of range");
        }
    }

    private static void requireUnprinted(Page page) {
        if (page.print != null) {
            throw new IllegalStateException("the page was printed");
        }
    }

    private static void requireFact(int fact) {
        if (fact < 0 || fact > LAST_FACT) {
            throw new IndexOutOfBoundsException("no such fact");
        }
    }

    private void requireFigure(int figure) {
        if (figure < 0 || figure >= figureCount) {
            throw new IndexOutOfBoundsException("no such figure");
        }
    }

    private Page existingPage(int number) {
        if (number < 0 || number >= pages.size()) {
            throw new IndexOutOfBoundsException("no such page");
        }
        return pages.get(number);
    }

    private static Panel existingPanel(Page page, int number) {
        if (number < 0 || number >= page.panels.size()) {
            throw new IndexOutOfBoundsException("no such panel");
        }
        return page.panels.get(number);
    }

    private static Balloon existingBalloon(Page page, int number) {
        if (number < 0 || number >= page.balloons.size()) {
            throw new IndexOutOfBoundsException("no such balloon");
        }
        return page.balloons.get(number);
    }

    private void requireRoomForPage() {
        if (pages.size() >= MAX_PAGES) {
            throw new IllegalStateException("the house has all its pages");
        }
    }

    private int addPage(Page page) {
        pages.add(page);
        return pages.size() - 1;
    }

    /** In how many orders the panels of a set, left behind all others, can be read. */
    private static int countOrders(Page page, int left, boolean isLeftward, int depth) {
        if (left == 0) {
            return 1;
        }
        if (depth >= MAX_PANELS) {
            return 0;
        }
        int count = 0;
        for (int i = 0; i < page.panels.size(); i++) {
            if (isIn(left, i) && !page.hasOneAheadOf(i, left, isLeftward)) {
                count += countOrders(page, left & ~(1 << i), isLeftward, depth + 1);
            }
        }
        return count;
    }

    private static boolean isIn(int set, int number) {
        return (set >> number & 1) == 1;
    }

    private void workOneWeek() {
        int idle = workerCount;
        for (int i = 0; i < pages.size() && idle > 0; i++) {
            Page next = pages.get(i);
            if (next.stage < LAST_STAGE) {
                next.stage++;
                idle--;
            }
        }
        week++;
    }

    /** A rectangle on a page; a balloon's may reach beyond it. */
    private static final class Box {
        final int x;
        final int y;
        final int width;
        final int height;

        Box(int x, int y, int width, int height) {
            this.x = x;
            this.y = y;
            this.width = width;
            this.height = height;
        }

        int endX() {
            return x + width;
        }

        int endY() {
            return y + height;
        }

        int middleX() {
            return x + width / 2;
        }

        int middleY() {
            return y + height / 2;
        }

        /** Where it begins for cuts across or for cuts downward. */
        int beginFor(boolean isAcross) {
            return isAcross ? y : x;
        }

        int endFor(boolean isAcross) {
            return isAcross ? y + height : x + width;
        }

        boolean isOnPage() {
            return x >= 0 && y >= 0 && endX() <= PAGE_WIDTH && endY() <= PAGE_HEIGHT;
        }

        /** Looks whether another one lies within; its place may be any number, so nothing is added to it. */
        boolean holds(Box other) {
            return other.x >= x && other.x <= endX() - other.width
                    && other.y >= y && other.y <= endY() - other.height;
        }

        boolean overlaps(Box other) {
            return x < other.endX() && other.x < endX() && sharesHeight(other);
        }

        boolean sharesHeight(Box other) {
            return y < other.endY() && other.y < endY();
        }

        boolean hasToComeAheadOf(Box other, boolean isLeftward) {
            boolean isAside = isLeftward ? other.endX() <= x : other.x >= endX();
            return other.y >= endY() || sharesHeight(other) && isAside;
        }

        Box mirrored() {
            return new Box(PAGE_WIDTH - endX(), y, width, height);
        }
    }

    /** A figure as it is drawn in one panel. */
    private static final class Face {
        final Box box;
        final int wears;
        final boolean changes;

        Face(Box box, int wears, boolean changes) {
            this.box = box;
            this.wears = wears;
            this.changes = changes;
        }

        boolean isBreakAfter(int worn) {
            return worn != NONE && worn != wears && !changes;
        }

        Face mirrored() {
            return new Face(box.mirrored(), wears, changes);
        }
    }

    private static final class Panel {
        final Box box;
        private final Face[] faces = new Face[MAX_FIGURES];

        Panel(Box box) {
            this.box = box;
        }

        /** The face of a figure, null if the figure is not in the panel. */
        Face faceOf(int figure) {
            return figure >= 0 && figure < faces.length ? faces[figure] : null;
        }

        void putFace(int figure, Face face) {
            if (figure >= 0 && figure < faces.length) {
                faces[figure] = face;
            }
        }

        boolean hasFaceUnder(Box balloon) {
            for (int i = 0; i < faces.length; i++) {
                Face face = faces[i];
                if (face != null && face.box.overlaps(balloon)) {
                    return true;
                }
            }
            return false;
        }

        /** Counts the breaks in this panel, after what was worn last, and puts down what is worn now. */
        int countBreaks(int[] worn) {
            int count = 0;
            for (int i = 0; i < faces.length && i < worn.length; i++) {
                Face face = faces[i];
                if (face != null) {
                    count += face.isBreakAfter(worn[i]) ? 1 : 0;
                    worn[i] = face.wears;
                }
            }
            return count;
        }

        Panel mirrored() {
            Panel copy = new Panel(box.mirrored());
            for (int i = 0; i < faces.length; i++) {
                Face face = faces[i];
                if (face != null) {
                    copy.putFace(i, face.mirrored());
                }
            }
            return copy;
        }
    }

    private static final class Balloon {
        final int panelNumber;
        final int figure;
        final int letters;
        Box box;

        Balloon(int panelNumber, Box box, int figure, int letters) {
            this.panelNumber = panelNumber;
            this.box = box;
            this.figure = figure;
            this.letters = letters;
        }

        boolean fitsItsLetters() {
            return AREA_OF_LETTER * letters <= box.width * box.height / 2;
        }

        /** Whether it stands where it would be spoken ahead of another one. */
        boolean standsAheadOf(Balloon other, boolean isLeftward) {
            if (box.y != other.box.y) {
                return box.y < other.box.y;
            }
            return isLeftward ? box.endX() > other.box.endX() : box.x < other.box.x;
        }

        Balloon mirrored() {
            return new Balloon(panelNumber, box.mirrored(), figure, letters);
        }
    }

    /** The line from the middle of a balloon to a mouth; it may be a single point. */
    private static final class Tail {
        private final int fromX;
        private final int fromY;
        private final int mouthX;
        private final int mouthY;

        Tail(Box balloon, Box face) {
            fromX = balloon.middleX();
            fromY = balloon.middleY();
            mouthX = face.middleX();
            mouthY = face.middleY();
        }

        /** Two lines meet if their frames do and neither lies wholly on one side of the other. */
        boolean meets(Tail other) {
            return isSpanMet(fromX, mouthX, other.fromX, other.mouthX)
                    && isSpanMet(fromY, mouthY, other.fromY, other.mouthY)
                    && sideOf(other.fromX, other.fromY) * sideOf(other.mouthX, other.mouthY) <= 0
                    && other.sideOf(fromX, fromY) * other.sideOf(mouthX, mouthY) <= 0;
        }

        /** Of two tails to one mouth: whether they leave it in the same direction. */
        boolean runsAlong(Tail other) {
            int along = (fromX - mouthX) * (other.fromX - other.mouthX)
                    + (fromY - mouthY) * (other.fromY - other.mouthY);
            return along > 0 && sideOf(other.fromX, other.fromY) == 0;
        }

        boolean touches(Box box) {
            int sides = sideOf(box.x, box.y) + sideOf(box.endX(), box.y)
                    + sideOf(box.x, box.endY()) + sideOf(box.endX(), box.endY());
            boolean isAllOnOneSide = sides == 4 || sides == -4;
            return !isAllOnOneSide
                    && isSpanMet(fromX, mouthX, box.x, box.endX())
                    && isSpanMet(fromY, mouthY, box.y, box.endY());
        }

        /** On which side of the tail's line a point lies: 1 or -1, 0 on it. */
        private int sideOf(int x, int y) {
            return Integer.compare((mouthX - fromX) * (y - fromY), (mouthY - fromY) * (x - fromX));
        }

        private static boolean isSpanMet(int oneEnd, int otherEnd, int itsOneEnd, int itsOtherEnd) {
            return Math.min(oneEnd, otherEnd) <= Math.max(itsOneEnd, itsOtherEnd)
                    && Math.min(itsOneEnd, itsOtherEnd) <= Math.max(oneEnd, otherEnd);
        }
    }

    private static final class Page {
        final ArrayList<Panel> panels = new ArrayList<>();
        final ArrayList<Balloon> balloons = new ArrayList<>();
        boolean isLeftward;
        int stage;
        /** The answers about its print, null until it is printed. */
        int[] print;

        Page(boolean isLeftward) {
            this.isLeftward = isLeftward;
        }

        int allPanels() {
            return (1 << panels.size()) - 1;
        }

        boolean hasPanelOver(Box box) {
            for (int i = 0; i < panels.size(); i++) {
                if (panels.get(i).box.overlaps(box)) {
                    return true;
                }
            }
            return false;
        }

        /** Whether one of a set of panels has to come ahead of a panel. */
        boolean hasOneAheadOf(int number, int set, boolean isLeftward) {
            if (number < 0 || number >= panels.size()) {
                return false;
            }
            Box box = panels.get(number).box;
            for (int i = 0; i < panels.size(); i++) {
                if (isIn(set, i) && panels.get(i).box.hasToComeAheadOf(box, isLeftward)) {
                    return true;
                }
            }
            return false;
        }

        /** The balloon of a number, if it is another one in the same panel, or null. */
        private Balloon neighbourAt(int number, int ownNumber, Balloon own) {
            if (number == ownNumber || number < 0 || number >= balloons.size()) {
                return null;
            }
            Balloon other = balloons.get(number);
            return other.panelNumber == own.panelNumber ? other : null;
        }

        boolean hasBalloonOver(int number, Balloon balloon) {
            for (int i = 0; i < balloons.size(); i++) {
                Balloon other = neighbourAt(i, number, balloon);
                if (other != null && other.box.overlaps(balloon.box)) {
                    return true;
                }
            }
            return false;
        }

        boolean isOutOfTurn(int number, Balloon balloon) {
            for (int i = 0; i < number; i++) {
                Balloon other = neighbourAt(i, number, balloon);
                if (other != null && balloon.standsAheadOf(other, isLeftward)) {
                    return true;
                }
            }
            return false;
        }

        boolean isTailHit(int number, Balloon balloon, Panel panel) {
            Face speaker = panel.faceOf(balloon.figure);
            if (speaker == null) {
                return false;
            }
            Tail tail = new Tail(balloon.box, speaker.box);
            for (int i = 0; i < balloons.size(); i++) {
                Balloon other = neighbourAt(i, number, balloon);
                if (other != null && (tail.touches(other.box) || isTailMet(tail, balloon, other, panel))) {
                    return true;
                }
            }
            return false;
        }

        private static boolean isTailMet(Tail tail, Balloon balloon, Balloon other, Panel panel) {
            Face speaker = panel.faceOf(other.figure);
            if (speaker == null) {
                return false;
            }
            Tail itsTail = new Tail(other.box, speaker.box);
            return other.figure == balloon.figure ? tail.runsAlong(itsTail) : tail.meets(itsTail);
        }

        int countBreaks(int[] worn) {
            Reading reading = Reading.of(this, isLeftward);
            int count = 0;
            for (int at = 0; at < panels.size(); at++) {
                int number = reading.panelAt(at);
                if (number >= 0 && number < panels.size()) {
                    count += panels.get(number).countBreaks(worn);
                }
            }
            return count;
        }

        int[] answersInPrint(int week) {
            int[] answers = new int[LAST_PRINT_ANSWER + 1];
            answers[PRINT_WEEK] = week;
            answers[PRINT_PANELS] = panels.size();
            answers[PRINT_LETTERS] = countLetters();
            Reading reading = Reading.of(this, isLeftward);
            for (int i = PRINT_READING; i < answers.length; i++) {
                answers[i] = reading.panelAt(i - PRINT_READING);
            }
            return answers;
        }

        private int countLetters() {
            int count = 0;
            for (int i = 0; i < balloons.size(); i++) {
                count += balloons.get(i).letters;
            }
            return count;
        }

        Page mirrored() {
            Page copy = new Page(!isLeftward);
            for (int i = 0; i < panels.size(); i++) {
                copy.panels.add(panels.get(i).mirrored());
            }
            for (int i = 0; i < balloons.size(); i++) {
                copy.balloons.add(balloons.get(i).mirrored());
            }
            return copy;
        }
    }

    /** The reading of a page in one direction; sets of panels are held as bits. */
    private static final class Reading {
        private final Page page;
        private final boolean isLeftward;
        private final int[] order = new int[MAX_PANELS];
        private int length;
        private int doubtCount;

        private Reading(Page page, boolean isLeftward) {
            this.page = page;
            this.isLeftward = isLeftward;
            Arrays.fill(order, NONE);
        }

        static Reading of(Page page, boolean isLeftward) {
            Reading reading = new Reading(page, isLeftward);
            takeSet(reading, page.allPanels(), 0);
            return reading;
        }

        /** The panel at a place, NONE behind the last one. */
        int panelAt(int at) {
            return at >= 0 && at < order.length ? order[at] : NONE;
        }

        /** Whether no panel is read behind one that it has to come ahead of. */
        boolean keepsAhead() {
            int left = page.allPanels();
            for (int at = 0; at < length; at++) {
                int number = panelAt(at);
                if (page.hasOneAheadOf(number, left, isLeftward)) {
                    return false;
                }
                left &= ~(1 << number);
            }
            return true;
        }

        /** Reads a set of panels behind those that were read already. */
        private static void takeSet(Reading reading, int set, int depth) {
            if (Integer.bitCount(set) < 2 || depth >= MAX_PANELS) {
                reading.takeByNumber(set);
                return;
            }
            int across = reading.widestCut(set, true);
            int downward = reading.widestCut(set, false);
            int gutterAcross = reading.gutterAt(set, true, across);
            int gutterDownward = reading.gutterAt(set, false, downward);
            // Like gutters are a doubt, and none at all, NONE on both sides, is one too.
            if (gutterAcross == gutterDownward) {
                reading.doubtCount++;
            }
            if (across == NONE && downward == NONE) {
                reading.takeByNumber(set);
            } else if (gutterAcross >= gutterDownward) {
                int above = reading.endingBy(set, true, across);
                takeSet(reading, above, depth + 1);
                takeSet(reading, set & ~above, depth + 1);
            } else {
                int toTheLeft = reading.endingBy(set, false, downward);
                takeSet(reading, reading.isLeftward ? set & ~toTheLeft : toTheLeft, depth + 1);
                takeSet(reading, reading.isLeftward ? toTheLeft : set & ~toTheLeft, depth + 1);
            }
        }

        private void takeByNumber(int set) {
            for (int i = 0; i < page.panels.size(); i++) {
                if (isIn(set, i) && length < order.length) {
                    order[length] = i;
                    length++;
                }
            }
        }

        /** Where the widest cut of a set lies, of like ones the first one in the direction; NONE without a cut. */
        private int widestCut(int set, boolean isAcross) {
            boolean isGreatestFirst = isLeftward && !isAcross;
            int best = NONE;
            int bestGutter = NONE;
            for (int i = 0; i < page.panels.size(); i++) {
                int line = page.panels.get(i).box.endFor(isAcross);
                int gutter = isIn(set, i) ? gutterAt(set, isAcross, line) : NONE;
                boolean isFirst = isGreatestFirst ? line > best : line < best;
                if (gutter > bestGutter || gutter != NONE && gutter == bestGutter && isFirst) {
                    best = line;
                    bestGutter = gutter;
                }
            }
            return best;
        }

        /** The gutter behind a line at which a panel of the set ends; NONE if the line is no cut. */
        private int gutterAt(int set, boolean isAcross, int line) {
            int least = NONE;
            for (int i = 0; i < page.panels.size() && line != NONE; i++) {
                Box box = page.panels.get(i).box;
                int begin = box.beginFor(isAcross);
                if (isIn(set, i) && box.endFor(isAcross) > line) {
                    if (begin < line) {
                        return NONE;
                    }
                    least = least == NONE ? begin : Math.min(least, begin);
                }
            }
            return least == NONE ? NONE : least - line;
        }

        private int endingBy(int set, boolean isAcross, int line) {
            int ending = 0;
            for (int i = 0; i < page.panels.size(); i++) {
                if (isIn(set, i) && page.panels.get(i).box.endFor(isAcross) <= line) {
                    ending |= 1 << i;
                }
            }
            return ending;
        }
    }

    private static final class Telling {
        final int fact;
        final int value;
        private final int time;
        private final boolean isRetcon;
        private final int week;

        Telling(int fact, int time, int value, boolean isRetcon, int week) {
            this.fact = fact;
            this.time = time;
            this.value = value;
            this.isRetcon = isRetcon;
            this.week = week;
        }

        /** Whether a reader of a week has it for a fact at a time. */
        boolean isHeard(int askedFact, int askedTime, int askedWeek) {
            return fact == askedFact && time <= askedTime && week <= askedWeek;
        }

        /** Whether it is believed in place of one that was told ahead of it. */
        boolean replaces(Telling earlier) {
            if (time != earlier.time) {
                return time > earlier.time;
            }
            return isRetcon || !earlier.isRetcon;
        }

        boolean contradicts(Telling earlier) {
            return fact == earlier.fact && time == earlier.time && value != earlier.value && !isRetcon;
        }
    }
}
