/** Promise 12: balloon puts a balloon, at most 20 on a page. */
public final class Promise12Test {
    public static void main(String[] args) {
        Due due = new Due("Promise12Test");
        numbers(due);
        ranges(due);
        kept(due);
        wrong(due);
        due.end();
    }

    private static Panelry onePanel() {
        Panelry x = new Panelry();
        x.page(false);
        x.panel(0, 0, 0, 60, 40);
        x.figure();
        return x;
    }

    private static void numbers(Due due) {
        Panelry x = onePanel();
        x.panel(0, 0, 40, 60, 40);
        x.page(false);
        x.panel(1, 0, 0, 60, 80);
        for (int i = 0; i < 20; i++) {
            int panel = i % 2;
            due.is("balloon " + i, i, () -> x.balloon(0, panel, 0, 0, 60, 80, Panelry.NONE, 200));
        }
        due.fails("a balloon more than 20", Due.NOT_NOW, () -> x.balloon(0, 0, 0, 0, 2, 2, 0, 1));
        due.fails("the balloon that was not put", Due.NO_SUCH, () -> x.faults(0, 20));
        due.is("the first one of another page", 0, () -> x.balloon(1, 0, 0, 0, 2, 2, 0, 1));
        due.fails("out of range on a full page", Due.OUT_OF_RANGE, () -> x.balloon(0, 0, 0, 0, 2, 2, 0, 0));
        due.fails("without a figure on a full page", Due.NO_SUCH, () -> x.balloon(0, 0, 0, 0, 2, 2, 1, 1));
    }

    private static void ranges(Due due) {
        int[][] right = {{0, 0, 2, 2, 1}, {59, 79, 2, 2, 1}, {59, 79, 60, 80, 200}, {0, 0, 60, 80, 200}};
        for (int[] r : right) {
            due.is("balloon at " + r[0] + ", " + r[1] + " of " + r[2] + ", " + r[3], 0,
                    () -> onePanel().balloon(0, 0, r[0], r[1], r[2], r[3], 0, r[4]));
        }
        int[][] wrong = {
            {-1, 0, 2, 2, 1}, {60, 0, 2, 2, 1}, {0, -1, 2, 2, 1}, {0, 80, 2, 2, 1}, {0, 0, 1, 2, 1}, {0, 0, 61, 2, 1},
            {0, 0, 2, 1, 1}, {0, 0, 2, 81, 1}, {0, 0, 2, 2, 0}, {0, 0, 2, 2, 201}, {0, 0, 2, 2, Integer.MAX_VALUE},
            {Integer.MIN_VALUE, 0, 2, 2, 1}, {0, Integer.MAX_VALUE, 2, 2, 1}, {0, 0, Integer.MIN_VALUE, 2, 1},
        };
        for (int[] w : wrong) {
            due.fails("balloon at " + w[0] + ", " + w[1] + " of " + w[2] + ", " + w[3] + " with " + w[4],
                    Due.OUT_OF_RANGE, () -> onePanel().balloon(0, 0, w[0], w[1], w[2], w[3], 0, w[4]));
        }
    }

    /** The ends of its ranges, told by the faults of the balloon that is put there. */
    private static void kept(Due due) {
        int[][] faults = {
            {0, 0, 60, 40, 0, 200, 0}, {0, 0, 60, 41, 0, 1, 1}, {0, 0, 2, 2, 0, 1, 32}, {58, 38, 2, 2, 0, 1, 32},
            {59, 38, 2, 2, 0, 1, 33}, {58, 39, 2, 2, 0, 1, 33}, {59, 79, 60, 80, 0, 200, 1},
            {0, 0, 4, 4, 1, 2, 8}, {0, 0, 4, 4, Panelry.NONE, 3, 32},
        };
        for (int[] f : faults) {
            Panelry x = onePanel();
            x.figure();
            x.draw(0, 0, 0, 28, 18, 2, 0, false);
            x.balloon(0, 0, f[0], f[1], f[2], f[3], f[4], f[5]);
            due.is("the balloon at " + f[0] + ", " + f[1] + " of " + f[2] + ", " + f[3], f[6], () -> x.faults(0, 0) & ~4);
        }
    }

    private static void wrong(Due due) {
        due.refuses("a balloon on the page -1", Due.NO_SUCH, x -> x.balloon(-1, 0, 2, 2, 2, 2, 0, 1));
        due.refuses("a balloon on the page 3", Due.NO_SUCH, x -> x.balloon(3, 0, 2, 2, 2, 2, 0, 1));
        due.refuses("a balloon in the panel -1", Due.NO_SUCH, x -> x.balloon(0, -1, 2, 2, 2, 2, 0, 1));
        due.refuses("a balloon in the panel 3", Due.NO_SUCH, x -> x.balloon(0, 3, 2, 2, 2, 2, 0, 1));
        due.refuses("a balloon of the figure -2", Due.NO_SUCH, x -> x.balloon(0, 0, 2, 2, 2, 2, -2, 1));
        due.refuses("a balloon of the figure 2", Due.NO_SUCH, x -> x.balloon(0, 0, 2, 2, 2, 2, 2, 1));
        due.refuses("a balloon without letters", Due.OUT_OF_RANGE, x -> x.balloon(0, 0, 2, 2, 2, 2, 0, 0));
        due.refuses("a balloon on a printed page", Due.NOT_NOW, x -> x.balloon(1, 0, 2, 2, 2, 2, 0, 1));
        due.is("a balloon on a page at the stage 4", 2, () -> Sample.house().balloon(0, 0, 2, 2, 2, 2, 0, 1));
        due.is("a balloon of a figure that is not in the panel", 2, () -> Sample.house().balloon(0, 2, 2, 2, 2, 2, 0, 1));
        due.fails("no figure, and out of range, and printed", Due.NO_SUCH,
                () -> Sample.house().balloon(1, 0, 60, 2, 2, 2, 2, 1));
        due.fails("no panel, and out of range, and printed", Due.NO_SUCH,
                () -> Sample.house().balloon(1, 2, 60, 2, 2, 2, 0, 1));
        due.fails("out of range, and printed", Due.OUT_OF_RANGE,
                () -> Sample.house().balloon(1, 0, 2, 2, 2, 2, 0, 201));
    }
}
