/** Promise 3: panel puts a panel on the page, over none other, at most 8. */
public final class Promise03Test {
    public static void main(String[] args) {
        Due due = new Due("Promise03Test");
        numbers(due);
        ranges(due);
        overlaps(due);
        limits(due);
        firstOfSeveral(due);
        due.end();
    }

    private static Panelry onePage() {
        Panelry x = new Panelry();
        x.page(false);
        return x;
    }

    private static void numbers(Due due) {
        Panelry x = onePage();
        x.page(true);
        due.is("the whole page", 0, () -> x.panel(0, 0, 0, 60, 80));
        due.is("the first one of another page", 0, () -> x.panel(1, 56, 76, 4, 4));
        due.is("the second one", 1, () -> x.panel(1, 0, 0, 4, 80));
        due.is("the third one", 2, () -> x.panel(1, 4, 0, 56, 4));
    }

    private static void ranges(Due due) {
        int[][] wrong = {
            {-1, 0, 10, 10}, {60, 0, 4, 10}, {0, -1, 10, 10}, {0, 80, 10, 4},
            {0, 0, 3, 10}, {0, 0, 61, 10}, {0, 0, 10, 3}, {0, 0, 10, 81},
            {57, 0, 4, 4}, {0, 77, 4, 4}, {1, 0, 60, 4}, {0, 1, 4, 80},
            {59, 0, 4, 4}, {0, 79, 4, 4},
            {Integer.MAX_VALUE, 0, 4, 4}, {Integer.MIN_VALUE, 0, 4, 4}, {0, Integer.MAX_VALUE, 4, 4},
            {0, 0, Integer.MAX_VALUE, 4}, {0, 0, 4, Integer.MAX_VALUE}, {0, 0, -4, 4}, {0, 0, 4, -4},
        };
        for (int[] w : wrong) {
            due.fails("panel at " + w[0] + ", " + w[1] + " of " + w[2] + ", " + w[3], Due.OUT_OF_RANGE,
                    () -> onePage().panel(0, w[0], w[1], w[2], w[3]));
        }
        int[][] right = {{56, 76, 4, 4}, {0, 0, 60, 4}, {0, 0, 4, 80}, {55, 75, 5, 5}};
        for (int[] r : right) {
            due.is("panel at " + r[0] + ", " + r[1] + " of " + r[2] + ", " + r[3], 0,
                    () -> onePage().panel(0, r[0], r[1], r[2], r[3]));
        }
        due.refuses("a panel beyond the page", Due.OUT_OF_RANGE, x -> x.panel(2, 57, 0, 4, 4));
    }

    private static void overlaps(Due due) {
        int[][] over = {
            {20, 20, 10, 10}, {23, 23, 4, 4}, {10, 10, 40, 40}, {11, 11, 10, 10}, {29, 29, 10, 10},
            {11, 29, 10, 10}, {29, 11, 10, 10}, {10, 22, 40, 4}, {22, 10, 4, 40},
        };
        for (int[] o : over) {
            due.fails("panel over another one at " + o[0] + ", " + o[1], Due.NOT_NOW, () -> {
                Panelry x = onePage();
                x.panel(0, 20, 20, 10, 10);
                x.panel(0, o[0], o[1], o[2], o[3]);
            });
        }
        int[][] beside = {
            {10, 20, 10, 10}, {30, 20, 10, 10}, {20, 10, 10, 10}, {20, 30, 10, 10}, {10, 10, 10, 10}, {30, 30, 10, 10},
        };
        for (int[] b : beside) {
            due.is("panel beside another one at " + b[0] + ", " + b[1], 1, () -> {
                Panelry x = onePage();
                x.panel(0, 20, 20, 10, 10);
                return x.panel(0, b[0], b[1], b[2], b[3]);
            });
        }
        due.refuses("a panel over another one", Due.NOT_NOW, x -> x.panel(0, 29, 29, 20, 20));
        due.is("a panel over one of another page", 0, () -> {
            Panelry x = onePage();
            x.page(false);
            x.panel(0, 20, 20, 10, 10);
            return x.panel(1, 20, 20, 10, 10);
        });
    }

    private static void limits(Due due) {
        due.fails("panel 8", Due.NOT_NOW, () -> {
            Panelry x = onePage();
            for (int i = 0; i < 9; i++) {
                x.panel(0, 0, i * 4, 4, 4);
            }
        });
        due.is("panel 7", 7, () -> {
            Panelry x = onePage();
            for (int i = 0; i < 7; i++) {
                x.panel(0, 0, i * 4, 4, 4);
            }
            return x.panel(0, 0, 28, 4, 4);
        });
        due.is("a full page, then another page", 0, () -> {
            Panelry x = Sample.fullPage(false);
            x.page(false);
            return x.panel(1, 0, 0, 4, 4);
        });
        due.fails("a panel beside eight others", Due.NOT_NOW, () -> rowOf(8).panel(0, 0, 40, 4, 4));
        due.is("a panel beside seven others", 7, () -> rowOf(7).panel(0, 0, 40, 4, 4));
        due.fails("a panel beside and over seven others", Due.NOT_NOW, () -> rowOf(7).panel(0, 0, 9, 4, 4));
        due.refuses("a panel of a printed page", Due.NOT_NOW, x -> x.panel(1, 0, 40, 4, 4));
        due.refuses("a panel of the page -1", Due.NO_SUCH, x -> x.panel(-1, 0, 0, 4, 4));
        due.refuses("a panel of the page 3", Due.NO_SUCH, x -> x.panel(3, 0, 0, 4, 4));
        due.is("a panel of a page at the stage 4", 3, () -> Sample.house().panel(0, 50, 0, 10, 30));
    }

    private static Panelry rowOf(int count) {
        Panelry x = onePage();
        for (int i = 0; i < count; i++) {
            x.panel(0, i * 7, 0, 7, 10);
        }
        return x;
    }

    private static void firstOfSeveral(Due due) {
        due.fails("no page, and out of range", Due.NO_SUCH, () -> new Panelry().panel(0, -1, 0, 4, 4));
        due.fails("out of range, and printed", Due.OUT_OF_RANGE, () -> Sample.house().panel(1, 0, 40, 3, 4));
        due.fails("beyond the page, and over another one", Due.OUT_OF_RANGE,
                () -> Sample.house().panel(0, 29, 29, 40, 4));
        due.fails("beyond a full page", Due.OUT_OF_RANGE, () -> Sample.fullPage(false).panel(0, 30, 0, 31, 4));
    }
}
