/** Promise 14: faults tells each fault of a balloon. */
public final class Promise14Test {
    private static final Due DUE = new Due("Promise14Test");

    public static void main(String[] args) {
        withinThePanel();
        overBalloons();
        overFaces();
        withoutSpeaker();
        letters();
        outOfTurn();
        tailsAndTails();
        tailsOfOneFigure();
        tailsAndRectangles();
        noneAndAll();
        DUE.refuses("faults on the page -1", Due.NO_SUCH, x -> x.faults(-1, 0));
        DUE.refuses("faults on the page 3", Due.NO_SUCH, x -> x.faults(3, 0));
        DUE.refuses("faults of the balloon -1", Due.NO_SUCH, x -> x.faults(0, -1));
        DUE.refuses("faults of the balloon 2", Due.NO_SUCH, x -> x.faults(0, 2));
        DUE.end();
    }

    /** A page of the panels 0 from 0, 0 to 40, 60 and 1 from 40, 0 to 60, 60; four figures. */
    private static Panelry page(boolean isLeftward) {
        Panelry x = new Panelry();
        x.page(isLeftward);
        x.panel(0, 0, 0, 40, 60);
        x.panel(0, 40, 0, 20, 60);
        for (int i = 0; i < 4; i++) {
            x.figure();
        }
        return x;
    }

    /** Puts a mute balloon with room for its letters. */
    private static void mute(Panelry x, int panel, int left, int top, int width, int height) {
        x.balloon(0, panel, left, top, width, height, Panelry.NONE, 1);
    }

    private static void is(String told, int fault, boolean hasIt, Panelry x, int balloon) {
        DUE.is(told, hasIt ? fault : 0, () -> x.faults(0, balloon) & fault);
    }

    private static void withinThePanel() {
        int[][] places = {
            {0, 0, 0}, {36, 56, 0}, {37, 56, 1}, {36, 57, 1}, {59, 79, 1}, {40, 0, 1},
        };
        for (int[] p : places) {
            Panelry x = page(false);
            mute(x, 0, p[0], p[1], 4, 4);
            is("in the panel 0 at " + p[0] + ", " + p[1], 1, p[2] == 1, x, 0);
        }
        Panelry x = page(false);
        mute(x, 1, 40, 0, 20, 60);
        mute(x, 1, 39, 0, 20, 60);
        is("at the left end of the panel 1", 1, false, x, 0);
        is("beyond the left end of the panel 1", 1, true, x, 1);
        DUE.is("a balloon above its panel", 1, () -> {
            Panelry y = new Panelry();
            y.page(false);
            y.panel(0, 0, 10, 20, 20);
            mute(y, 0, 0, 9, 4, 4);
            return y.faults(0, 0);
        });
    }

    private static void overBalloons() {
        int[][] places = {
            {10, 10, 1}, {12, 12, 1}, {17, 10, 1}, {18, 10, 0}, {10, 18, 0}, {10, 17, 1}, {2, 10, 0}, {3, 10, 1},
            {10, 2, 0}, {10, 3, 1}, {18, 18, 0}, {17, 17, 1}, {3, 17, 1},
        };
        for (int[] p : places) {
            Panelry x = page(false);
            mute(x, 0, 10, 10, 8, 8);
            mute(x, 0, p[0], p[1], 8, 8);
            is("a balloon over the one ahead at " + p[0] + ", " + p[1], 2, p[2] == 1, x, 1);
            is("a balloon under the one behind at " + p[0] + ", " + p[1], 2, p[2] == 1, x, 0);
        }
        Panelry x = page(false);
        mute(x, 0, 30, 10, 20, 8);
        mute(x, 1, 40, 10, 8, 8);
        is("over a balloon of another panel", 2, false, x, 0);
        is("under a balloon of another panel", 2, false, x, 1);
    }

    private static void overFaces() {
        int[][] places = {{10, 10, 1}, {13, 13, 1}, {14, 10, 0}, {6, 10, 0}, {10, 14, 0}, {10, 6, 0}, {7, 7, 1}};
        for (int[] p : places) {
            Panelry x = page(false);
            x.draw(0, 0, 3, 10, 10, 4, 0, false);
            mute(x, 0, p[0], p[1], 4, 4);
            is("over a face at " + p[0] + ", " + p[1], 4, p[2] == 1, x, 0);
        }
        Panelry x = page(false);
        x.draw(0, 1, 0, 40, 10, 4, 0, false);
        x.draw(0, 0, 1, 10, 10, 4, 0, false);
        mute(x, 0, 38, 10, 10, 10);
        is("over a face of another panel", 4, false, x, 0);
        x.balloon(0, 0, 9, 9, 4, 4, 1, 1);
        is("over the face of its own figure", 4, true, x, 1);
    }

    private static void withoutSpeaker() {
        Panelry x = page(false);
        x.draw(0, 1, 2, 50, 50, 4, 0, false);
        x.draw(0, 0, 1, 20, 50, 4, 0, false);
        x.balloon(0, 0, 2, 2, 4, 4, 2, 1);
        x.balloon(0, 0, 8, 2, 4, 4, 1, 1);
        mute(x, 0, 14, 2, 4, 4);
        x.balloon(0, 1, 42, 2, 4, 4, 2, 1);
        DUE.is("its figure is in another panel", 8, () -> x.faults(0, 0));
        DUE.is("its figure is in the panel", 0, () -> x.faults(0, 1));
        DUE.is("none speaks", 0, () -> x.faults(0, 2));
        DUE.is("its figure is in the panel 1", 0, () -> x.faults(0, 3));
        x.draw(0, 0, 2, 2, 50, 4, 0, false);
        x.balloon(0, 1, 42, 20, 4, 4, 1, 1);
        DUE.is("its figure is in the panel 0 alone", 8, () -> x.faults(0, 4));
        DUE.is("its figure came into the panel", 0, () -> x.faults(0, 0));
    }

    private static void letters() {
        int[][] sizes = {
            {2, 4, 1, 0}, {3, 3, 1, 0}, {2, 3, 1, 1}, {2, 2, 1, 1}, {8, 6, 6, 0}, {8, 6, 7, 1},
            {5, 5, 3, 0}, {5, 5, 4, 1}, {40, 40, 200, 0}, {39, 41, 200, 1}, {39, 41, 199, 0}, {60, 80, 200, 0},
        };
        for (int[] s : sizes) {
            Panelry x = page(false);
            x.balloon(0, 0, 0, 0, s[0], s[1], Panelry.NONE, s[2]);
            is(s[2] + " letters in " + s[0] + ", " + s[1], 32, s[3] == 1, x, 0);
        }
    }

    private static void outOfTurn() {
        turn("below the one ahead", false, false, 10, 10, 4, 0, 20, 4);
        turn("above the one ahead", true, true, 10, 10, 4, 30, 9, 4);
        turn("at the same height, to the right", false, true, 10, 10, 4, 11, 10, 4);
        turn("at the same height, to the left", true, false, 10, 10, 4, 9, 10, 4);
        turn("in the same place", false, false, 10, 10, 4, 10, 10, 4);
        turn("to the left, but with the same right end", true, false, 10, 10, 4, 9, 10, 5);
        turn("to the left, but with the right end further", true, true, 10, 10, 4, 9, 10, 6);
        turn("in the same place, with the right end further", false, true, 10, 10, 4, 10, 10, 5);
        turn("to the right, with the same right end", false, false, 10, 10, 4, 12, 10, 2);
        turn("below, to the left", false, false, 10, 10, 4, 0, 11, 4);
        turn("below, to the right", false, false, 10, 10, 4, 30, 11, 4);
        Panelry x = page(false);
        mute(x, 1, 50, 30, 4, 4);
        mute(x, 0, 10, 10, 4, 4);
        mute(x, 0, 10, 20, 4, 4);
        mute(x, 0, 10, 15, 4, 4);
        is("above one of another panel", 64, false, x, 1);
        is("below the one ahead, the next one above it", 64, false, x, 2);
        is("above the second one of those ahead", 64, true, x, 3);
    }

    /** A balloon at left, top, height 4, is put behind one at firstLeft, firstTop. */
    private static void turn(String told, boolean rightward, boolean leftward,
            int firstLeft, int firstTop, int firstWidth, int left, int top, int width) {
        for (int way = 0; way < 2; way++) {
            Panelry x = page(way == 1);
            mute(x, 0, firstLeft, firstTop, firstWidth, 4);
            mute(x, 0, left, top, width, 4);
            is(told + (way == 1 ? ", leftward" : ", rightward"), 64, way == 1 ? leftward : rightward, x, 1);
            is(told + ", the one ahead", 64, false, x, 0);
        }
    }

    private static void mouth(Panelry x, int panel, int figure, int mouthX, int mouthY) {
        x.draw(0, panel, figure, mouthX - 1, mouthY - 1, 2, 0, false);
    }

    /** Puts a balloon of 2, 2 with its middle there. */
    private static void spoken(Panelry x, int panel, int figure, int middleX, int middleY) {
        x.balloon(0, panel, middleX - 1, middleY - 1, 2, 2, figure, 1);
    }

    private static void hits(String told, boolean isFirstHit, boolean isSecondHit, Panelry x) {
        is(told + ", the first one", 16, isFirstHit, x, 0);
        is(told + ", the second one", 16, isSecondHit, x, 1);
    }

    /** Two tails of the figures 0 and 1; each given by its balloon's middle and its mouth. */
    private static Panelry tails(int fromX, int fromY, int toX, int toY, int otherX, int otherY, int itsX, int itsY) {
        Panelry x = page(false);
        mouth(x, 0, 0, toX, toY);
        mouth(x, 0, 1, itsX, itsY);
        spoken(x, 0, 0, fromX, fromY);
        spoken(x, 0, 1, otherX, otherY);
        return x;
    }

    private static void tailsAndTails() {
        hits("tails apart", false, false, tails(10, 10, 10, 50, 30, 10, 30, 50));
        hits("tails across", true, true, tails(30, 10, 10, 50, 10, 10, 30, 50));
        hits("tails whose lines meet beyond them", false, false, tails(18, 40, 10, 50, 22, 40, 30, 50));
        hits("tails of which one's line meets the other", false, false, tails(10, 10, 10, 50, 20, 30, 30, 31));
        hits("a mouth on the other's tail", true, true, tails(30, 10, 10, 50, 35, 30, 20, 30));
        hits("a mouth beside the other's tail", false, false, tails(30, 10, 10, 50, 35, 30, 21, 30));
        hits("a mouth beyond the other's tail", true, true, tails(30, 10, 10, 50, 35, 30, 19, 30));
        hits("two figures with one mouth", true, true, tails(10, 10, 20, 50, 30, 10, 20, 50));
        hits("along one line, one over the other", true, true, tails(10, 10, 10, 40, 10, 55, 10, 30));
        hits("along one line, mouth to mouth", true, true, tails(10, 10, 10, 40, 10, 55, 10, 40));
        hits("along one line, apart", false, false, tails(10, 10, 10, 40, 10, 55, 10, 41));
        hits("along one line aslant, one over the other", true, true, tails(5, 10, 20, 40, 27, 54, 15, 30));
        hits("along one line aslant, apart", false, false, tails(5, 10, 20, 40, 27, 54, 21, 42));
        hits("along like lines", false, false, tails(10, 10, 10, 50, 13, 12, 13, 52));
        hits("a tail that is a point on the other's tail", true, true, tails(30, 10, 10, 50, 20, 30, 20, 30));
        hits("a tail that is a point apart", false, false, tails(30, 10, 10, 50, 25, 40, 25, 40));
        hits("mouths one apart", false, false, tails(10, 10, 10, 50, 30, 10, 11, 50));
        hits("mouths one apart, the tails across", true, true, tails(10, 10, 11, 50, 30, 10, 10, 50));
        hits("a mouth 1 ahead of the other's mouth", true, true, tails(10, 10, 10, 50, 30, 49, 10, 49));
        hits("a mouth 1 behind the other's mouth", false, false, tails(10, 10, 10, 50, 30, 51, 10, 51));
        hits("two tails that are one point", true, true, tails(10, 30, 10, 30, 10, 30, 10, 30));
        hits("two tails that are points apart", false, false, tails(10, 30, 10, 30, 13, 30, 13, 30));
        Panelry x = page(false);
        mouth(x, 0, 0, 10, 50);
        mouth(x, 1, 1, 50, 50);
        spoken(x, 0, 0, 30, 10);
        spoken(x, 0, 1, 10, 10);
        hits("without its speaker in the panel a balloon has no tail", false, false, x);
        Panelry y = page(false);
        mouth(y, 0, 0, 10, 50);
        mouth(y, 1, 1, 50, 50);
        spoken(y, 0, 0, 50, 10);
        spoken(y, 1, 1, 10, 10);
        hits("tails across, of two panels", false, false, y);
        mouth(y, 0, 1, 30, 50);
        spoken(y, 0, 1, 10, 20);
        is("the tail of a figure in both panels, in this one", 16, true, y, 2);
        is("the tail of a figure in both panels, in the other one", 16, false, y, 1);
    }

    /** Two balloons of the figure 0, whose mouth is told last. */
    private static Panelry ofOne(int fromX, int fromY, int otherX, int otherY, int mouthX, int mouthY) {
        Panelry x = page(false);
        mouth(x, 0, 0, mouthX, mouthY);
        spoken(x, 0, 0, fromX, fromY);
        spoken(x, 0, 0, otherX, otherY);
        return x;
    }

    private static void tailsOfOneFigure() {
        hits("one figure, the mouth alone in common", false, false, ofOne(10, 10, 30, 10, 20, 50));
        hits("one figure, one tail along the other", true, true, ofOne(20, 10, 20, 20, 20, 50));
        hits("one figure, the first tail along the other", true, true, ofOne(20, 20, 20, 10, 20, 50));
        hits("one figure, aslant along the other", true, true, ofOne(10, 30, 15, 40, 20, 50));
        hits("one figure, aslant the other way", true, true, ofOne(30, 30, 25, 40, 20, 50));
        hits("one figure, from both sides of the mouth", false, false, ofOne(20, 10, 20, 50, 20, 30));
        hits("one figure, from both sides, aslant", false, false, ofOne(10, 10, 30, 50, 20, 30));
        hits("one figure, across, along the other", true, true, ofOne(10, 30, 14, 30, 20, 30));
        hits("one figure, across, from both sides", false, false, ofOne(10, 30, 35, 30, 20, 30));
        hits("one figure, the first one's tail over the other's rectangle", true, false, ofOne(10, 10, 12, 20, 20, 50));
        hits("one figure, the other's tail a point", true, false, ofOne(20, 10, 20, 50, 20, 50));
        hits("one figure, tails of 1", true, true, ofOne(20, 49, 20, 49, 20, 50));
        hits("one figure, a tail of 1 along the other", true, true, ofOne(20, 49, 20, 30, 20, 50));
        hits("one figure, nearly along the other", false, false, ofOne(20, 10, 18, 16, 20, 50));
        hits("one figure, the same tail", true, true, ofOne(10, 10, 10, 10, 20, 50));
    }

    /** Whether the tail from a middle to a mouth is hit by the rectangle of a mute balloon. */
    private static void rectangle(String told, boolean isHit, int[] tail, int left, int top, int width, int height) {
        Panelry x = page(false);
        mouth(x, 0, 0, tail[2], tail[3]);
        spoken(x, 0, 0, tail[0], tail[1]);
        mute(x, 0, left, top, width, height);
        hits(told, isHit, false, x);
        Panelry y = page(false);
        mouth(y, 0, 0, tail[2], tail[3]);
        mute(y, 0, left, top, width, height);
        spoken(y, 0, 0, tail[0], tail[1]);
        hits(told + ", the other way round", false, isHit, y);
        Panelry z = page(false);
        mouth(z, 0, 0, tail[2], tail[3]);
        spoken(z, 0, 0, tail[0], tail[1]);
        mute(z, 1, left, top, width, height);
        hits(told + ", of another panel", false, false, z);
    }

    private static void tailsAndRectangles() {
        int[] down = {10, 10, 10, 50};
        rectangle("a rectangle over the tail", true, down, 8, 30, 4, 4);
        rectangle("its left edge on the tail", true, down, 10, 30, 4, 4);
        rectangle("to the right of the tail", false, down, 11, 30, 4, 4);
        rectangle("its right edge on the tail", true, down, 6, 30, 4, 4);
        rectangle("to the left of the tail", false, down, 5, 30, 4, 4);
        rectangle("its upper edge at the mouth", true, down, 8, 50, 4, 4);
        rectangle("below the mouth", false, down, 8, 51, 4, 4);
        rectangle("its lower edge at the middle", true, down, 8, 6, 4, 4);
        rectangle("above the middle", false, down, 8, 5, 4, 4);
        rectangle("around the whole tail", true, down, 0, 0, 40, 60);
        int[] across = {10, 30, 30, 30};
        rectangle("its upper edge on the tail across", true, across, 15, 30, 4, 4);
        rectangle("below the tail across", false, across, 15, 31, 4, 4);
        rectangle("its lower edge on the tail across", true, across, 15, 26, 4, 4);
        rectangle("above the tail across", false, across, 15, 25, 4, 4);
        int[] aslant = {10, 10, 30, 50};
        rectangle("aslant, its lower left corner on the tail", true, aslant, 20, 26, 4, 4);
        rectangle("aslant, its lower left corner beside the tail", false, aslant, 21, 26, 4, 4);
        rectangle("aslant, its upper right corner on the tail", true, aslant, 16, 30, 4, 4);
        rectangle("aslant, its upper right corner beside the tail", false, aslant, 15, 30, 4, 4);
        rectangle("aslant, through it", true, aslant, 10, 26, 30, 4);
        int[] rising = {30, 10, 10, 50};
        rectangle("rising, its lower right corner on the tail", true, rising, 16, 26, 4, 4);
        rectangle("rising, its lower right corner beside the tail", false, rising, 15, 26, 4, 4);
        rectangle("rising, its upper left corner on the tail", true, rising, 20, 30, 4, 4);
        rectangle("rising, its upper left corner beside the tail", false, rising, 21, 30, 4, 4);
        int[] point = {10, 30, 10, 30};
        rectangle("the tail a point on a corner", true, point, 10, 30, 4, 4);
        rectangle("the tail a point beside the left edge", false, point, 11, 30, 4, 4);
        rectangle("the tail a point above the upper edge", false, point, 8, 31, 4, 4);
        rectangle("the tail a point within", true, point, 5, 25, 20, 20);
        roundedMiddles();
        narrowAndLow();
    }

    /** The middles of balloons that are not as wide as high. */
    private static void narrowAndLow() {
        int[][] sizes = {{4, 12}, {12, 4}, {5, 13}, {13, 5}, {2, 20}, {20, 2}};
        for (int[] s : sizes) {
            int middleX = 10 + s[0] / 2;
            int middleY = 10 + s[1] / 2;
            for (int step = -1; step <= 1; step++) {
                Panelry x = page(false);
                mouth(x, 0, 0, middleX, 50);
                x.balloon(0, 0, 10, 10, s[0], s[1], 0, 1);
                mute(x, 0, middleX + step, 40, 4, 4);
                hits("down from " + s[0] + ", " + s[1] + ", a rectangle " + step + " aside", step <= 0, false, x);
                Panelry y = page(false);
                mouth(y, 0, 0, 38, middleY);
                y.balloon(0, 0, 10, 10, s[0], s[1], 0, 1);
                mute(y, 0, 32, middleY + step, 4, 4);
                hits("across from " + s[0] + ", " + s[1] + ", a rectangle " + step + " aside", step <= 0, false, y);
            }
        }
    }

    /** A balloon alone on its page has none of the faults with others; there are balloons with each set of faults. */
    private static void noneAndAll() {
        Panelry alone = page(true);
        alone.draw(0, 0, 0, 30, 50, 4, 0, false);
        alone.balloon(0, 0, 0, 0, 8, 4, 0, 4);
        DUE.is("alone", 0, () -> alone.faults(0, 0));
        Panelry all = page(false);
        all.draw(0, 0, 0, 36, 6, 4, 0, false);
        all.balloon(0, 0, 0, 10, 40, 6, 0, 30);
        all.balloon(0, 0, 34, 2, 8, 12, 0, 200);
        all.balloon(0, 0, 34, 1, 8, 12, 1, 200);
        DUE.is("all of the faults that one with a tail can have", 1 + 2 + 4 + 16 + 32 + 64, () -> all.faults(0, 1));
        DUE.is("all of the faults that one without its figure can have", 1 + 2 + 4 + 8 + 32 + 64, () -> all.faults(0, 2));
        Panelry full = page(false);
        for (int i = 0; i < 20; i++) {
            full.balloon(0, 0, i % 5 * 8, i / 5 * 8, 8, 8, Panelry.NONE, 8);
        }
        for (int i = 0; i < 20; i++) {
            int asked = i;
            DUE.is("side by side, in order, just filled", 0, () -> full.faults(0, asked));
        }
        full.turn(0, true);
        for (int i = 0; i < 20; i++) {
            int asked = i;
            DUE.is("side by side, leftward", i % 5 == 0 ? 0 : 64, () -> full.faults(0, asked));
        }
    }

    /** Middles of odd sizes are rounded down: of 5 at 8 the middle is at 10. */
    private static void roundedMiddles() {
        for (int left = 9; left <= 12; left++) {
            Panelry x = page(false);
            x.draw(0, 0, 0, 8, 48, 5, 0, false);
            x.balloon(0, 0, 8, 8, 5, 5, 0, 1);
            mute(x, 0, left, 30, 4, 4);
            hits("odd sizes, a rectangle from x = " + left, left <= 10, false, x);
        }
        for (int top = 28; top <= 31; top++) {
            Panelry x = page(false);
            x.draw(0, 0, 0, 28, 28, 5, 0, false);
            x.balloon(0, 0, 8, 28, 5, 5, 0, 1);
            mute(x, 0, 18, top, 4, 4);
            hits("odd sizes, a rectangle from y = " + top, top <= 30, false, x);
        }
    }
}
