/** Promise 11: draw draws a figure in a panel, in place of what it was there. */
public final class Promise11Test {
    public static void main(String[] args) {
        Due due = new Due("Promise11Test");
        faces(due);
        ranges(due);
        wrong(due);
        full(due);
        due.end();
    }

    private static Panelry onePanel() {
        Panelry x = new Panelry();
        x.page(false);
        x.panel(0, 10, 20, 30, 40);
        x.figure();
        return x;
    }

    private static void faces(Due due) {
        Panelry x = onePanel();
        x.panel(0, 40, 20, 20, 40);
        x.balloon(0, 0, 12, 22, 8, 8, 0, 1);
        due.is("it is not in the panel", 8, () -> x.faults(0, 0));
        due.ends("it is drawn under the balloon", () -> x.draw(0, 0, 0, 16, 24, 6, 1, false));
        due.is("its face is under the balloon", 4, () -> x.faults(0, 0));
        due.ends("it is drawn elsewhere", () -> x.draw(0, 0, 0, 30, 50, 6, 2, false));
        due.is("its face is where it was drawn last alone", 0, () -> x.faults(0, 0));
        due.is("what it wore there does not count", 0, x::breaks);
        due.ends("it is drawn in another panel", () -> x.draw(0, 1, 0, 50, 30, 4, 5, false));
        due.is("it is in both of them", 1, x::breaks);
        due.is("its first face is still there", 0, () -> x.faults(0, 0));
        due.ends("it is drawn there with a change", () -> x.draw(0, 1, 0, 50, 30, 4, 5, true));
        due.is("the change is told", 0, x::breaks);
        due.ends("it is drawn there without it again", () -> x.draw(0, 1, 0, 50, 30, 4, 5, false));
        due.is("the change is not told any more", 1, x::breaks);
    }

    private static void ranges(Due due) {
        int[][] right = {{10, 20, 2, 0}, {38, 58, 2, 9}, {10, 20, 20, 5}, {20, 40, 20, 0}, {39 - 2, 59 - 2, 3, 1}};
        for (int[] r : right) {
            due.ends("draw at " + r[0] + ", " + r[1] + ", " + r[2] + " wide",
                    () -> onePanel().draw(0, 0, 0, r[0], r[1], r[2], r[3], false));
        }
        int[][] wrong = {
            {10, 20, 1, 0}, {10, 20, 21, 0}, {10, 20, 2, -1}, {10, 20, 2, 10},
            {9, 20, 4, 0}, {10, 19, 4, 0}, {37, 20, 4, 0}, {10, 57, 4, 0}, {21, 20, 20, 0}, {10, 41, 20, 0},
            {0, 0, 4, 0}, {50, 70, 4, 0}, {10, 20, 0, 0}, {20, 30, -4, 0},
            {Integer.MAX_VALUE, 20, 20, 0}, {10, Integer.MAX_VALUE, 20, 0},
            {Integer.MIN_VALUE, 20, 20, 0}, {10, Integer.MIN_VALUE, 20, 0},
            {10, 20, Integer.MAX_VALUE, 0}, {10, 20, Integer.MIN_VALUE, 0}, {10, 20, 4, Integer.MAX_VALUE},
        };
        for (int[] w : wrong) {
            due.fails("draw at " + w[0] + ", " + w[1] + ", " + w[2] + " wide, in " + w[3], Due.OUT_OF_RANGE,
                    () -> onePanel().draw(0, 0, 0, w[0], w[1], w[2], w[3], false));
        }
    }

    /** Each figure in each panel. */
    private static void full(Due due) {
        Panelry x = Sample.fullPage(false);
        for (int figure = 0; figure < 12; figure++) {
            x.figure();
            for (int panel = 0; panel < 8; panel++) {
                int left = panel % 2 * 30 + figure % 4 * 6;
                int top = panel / 2 * 20 + figure / 4 * 6;
                int drawn = figure;
                int in = panel;
                due.ends("the figure " + figure + " in the panel " + panel,
                        () -> x.draw(0, in, drawn, left, top, 6, in % 2, false));
            }
        }
        due.is("all of them change from panel to panel", 12 * 7, x::breaks);
        for (int panel = 0; panel < 8; panel++) {
            for (int figure = 0; figure < 2; figure++) {
                int left = panel % 2 * 30 + figure * 24;
                x.balloon(0, panel, left, panel / 2 * 20, 6, 6, figure * 11, 1);
            }
        }
        for (int balloon = 0; balloon < 16; balloon++) {
            int asked = balloon;
            due.is("over a face in each panel, beside the faces in each", balloon % 2 == 0 ? 4 : 0,
                    () -> x.faults(0, asked) & 15);
        }
    }

    private static void wrong(Due due) {
        due.refuses("draw on the page -1", Due.NO_SUCH, x -> x.draw(-1, 0, 0, 2, 2, 4, 0, false));
        due.refuses("draw on the page 3", Due.NO_SUCH, x -> x.draw(3, 0, 0, 2, 2, 4, 0, false));
        due.refuses("draw in the panel -1", Due.NO_SUCH, x -> x.draw(0, -1, 0, 2, 2, 4, 0, false));
        due.refuses("draw in the panel 3", Due.NO_SUCH, x -> x.draw(0, 3, 0, 2, 2, 4, 0, false));
        due.refuses("draw the figure -1", Due.NO_SUCH, x -> x.draw(0, 0, -1, 2, 2, 4, 0, false));
        due.refuses("draw the figure 2", Due.NO_SUCH, x -> x.draw(0, 0, 2, 2, 2, 4, 0, false));
        due.refuses("draw beyond the panel", Due.OUT_OF_RANGE, x -> x.draw(0, 0, 0, 26, 2, 6, 0, true));
        due.refuses("draw on a printed page", Due.NOT_NOW, x -> x.draw(1, 0, 1, 2, 2, 4, 9, false));
        due.ends("draw on a page at the stage 4", () -> Sample.house().draw(0, 0, 1, 2, 2, 4, 9, false));
        due.fails("no figure, and out of range, and printed", Due.NO_SUCH,
                () -> Sample.house().draw(1, 0, 2, 2, 2, 40, 0, false));
        due.fails("no panel, and out of range, and printed", Due.NO_SUCH,
                () -> Sample.house().draw(1, 2, 0, 2, 2, 40, 0, false));
        due.fails("out of range, and printed", Due.OUT_OF_RANGE,
                () -> Sample.house().draw(1, 0, 0, 2, 2, 4, 10, false));
        due.fails("beyond the panel, and printed", Due.OUT_OF_RANGE,
                () -> Sample.house().draw(1, 0, 0, 19, 2, 4, 0, false));
    }
}
