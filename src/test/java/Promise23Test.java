/** Promise 23: printed tells of a page as it was printed. */
public final class Promise23Test {
    public static void main(String[] args) {
        Due due = new Due("Promise23Test");
        printedPages(due);
        panels(due);
        weeks(due);
        keptAsItWas(due);
        wrong(due);
        due.end();
    }

    private static void answers(Due due, String told, Panelry x, int page, int... dues) {
        for (int i = 0; i < dues.length; i++) {
            int what = i;
            due.is(told + ", " + what, dues[i], () -> x.printed(page, what));
        }
    }

    private static void printedPages(Due due) {
        Panelry x = Sample.house();
        answers(due, "not printed", x, 0, -1, -1, -1, -1, -1, -1, -1, -1, -1, -1, -1);
        answers(due, "printed leftward", x, 1, 4, 2, 4, 1, 0, -1, -1, -1, -1, -1, -1);
        x.pass(3);
        x.press(0);
        answers(due, "printed in the week 7", x, 0, 7, 3, 14, 0, 1, 2, -1, -1, -1, -1, -1);
        x.pass(50);
        answers(due, "printed in the week 7, later", x, 0, 7, 3, 14, 0, 1, 2, -1, -1, -1, -1, -1);
        answers(due, "without panels, not printed", x, 2, -1, -1, -1, -1, -1, -1, -1, -1, -1, -1, -1);
        x.press(2);
        answers(due, "without panels", x, 2, 57, 0, 0, -1, -1, -1, -1, -1, -1, -1, -1);
        Panelry full = Sample.fullPage(false);
        for (int i = 0; i < 20; i++) {
            full.balloon(0, i % 8, 0, 0, 2, 2, Panelry.NONE, 200 - i);
        }
        full.turn(0, true);
        full.pass(4);
        full.press(0);
        answers(due, "full", full, 0, 4, 8, 20 * 200 - 190, 1, 0, 3, 2, 5, 4, 7, 6);
        full.mirror(0);
        answers(due, "mirrored, not printed", full, 1, -1, -1, -1, -1, -1, -1, -1, -1, -1, -1, -1);
        full.pass(4);
        full.press(1);
        answers(due, "mirrored and printed", full, 1, 8, 8, 20 * 200 - 190, 1, 0, 3, 2, 5, 4, 7, 6);
    }

    /** Pages of no panels up to 8, read leftward and rightward. */
    private static void panels(Due due) {
        for (int count = 0; count <= 8; count++) {
            int[] rightward = new int[11];
            int[] leftward = new int[11];
            java.util.Arrays.fill(rightward, Panelry.NONE);
            java.util.Arrays.fill(leftward, Panelry.NONE);
            Panelry x = new Panelry();
            x.page(false);
            for (int i = 0; i < count; i++) {
                x.panel(0, i * 7, 0, 7, 80);
                rightward[3 + i] = i;
                leftward[3 + count - 1 - i] = i;
            }
            x.mirror(0);
            x.mirror(0);
            x.turn(2, false);
            x.pass(12);
            int[][] dues = {rightward, rightward, leftward};
            for (int page = 0; page < 3; page++) {
                dues[page][0] = 12;
                dues[page][1] = count;
                dues[page][2] = 0;
                x.press(page);
                answers(due, count + " panels, page " + page, x, page, dues[page]);
            }
        }
    }

    /** A page is printed in the first week in which it can be, and another one in the last week. */
    private static void weeks(Due due) {
        Panelry x = new Panelry();
        x.page(false);
        x.page(false);
        x.workers(2);
        x.pass(4);
        x.press(0);
        for (int i = 0; i < 3; i++) {
            x.pass(50);
        }
        x.pass(46);
        x.press(1);
        due.is("printed in the week 4", 4, () -> x.printed(0, 0));
        due.is("printed in the week 200", 200, () -> x.printed(1, 0));
    }

    /** What is changed ahead of the press is printed, and nothing behind it changes what was. */
    private static void keptAsItWas(Due due) {
        Panelry x = Sample.fullPage(false);
        x.pass(4);
        x.balloon(0, 0, 0, 0, 2, 2, Panelry.NONE, 1);
        x.balloon(0, 7, 0, 0, 2, 2, Panelry.NONE, 200);
        x.turn(0, true);
        x.press(0);
        answers(due, "printed", x, 0, 4, 8, 201, 1, 0, 3, 2, 5, 4, 7, 6);
        x.mirror(0);
        x.turn(1, true);
        x.balloon(1, 0, 0, 0, 2, 2, Panelry.NONE, 50);
        due.fails("a balloon more", Due.NOT_NOW, () -> x.balloon(0, 0, 0, 0, 2, 2, Panelry.NONE, 50));
        due.fails("turned", Due.NOT_NOW, () -> x.turn(0, false));
        x.pass(4);
        due.fails("printed once more", Due.NOT_NOW, () -> x.press(0));
        answers(due, "printed, behind all that", x, 0, 4, 8, 201, 1, 0, 3, 2, 5, 4, 7, 6);
        x.press(1);
        answers(due, "its copy", x, 1, 8, 8, 251, 0, 1, 2, 3, 4, 5, 6, 7);
    }

    private static void wrong(Due due) {
        due.refuses("-1 of a printed page", Due.OUT_OF_RANGE, x -> x.printed(1, -1));
        due.refuses("11 of a printed page", Due.OUT_OF_RANGE, x -> x.printed(1, 11));
        due.refuses("-1 of a page that was not printed", Due.OUT_OF_RANGE, x -> x.printed(0, -1));
        due.refuses("11 of a page that was not printed", Due.OUT_OF_RANGE, x -> x.printed(0, 11));
        due.refuses("the page -1", Due.NO_SUCH, x -> x.printed(-1, 0));
        due.refuses("the page 3", Due.NO_SUCH, x -> x.printed(3, 0));
        due.fails("no page, and out of range", Due.NO_SUCH, () -> Sample.house().printed(3, 11));
        due.fails("the greatest", Due.OUT_OF_RANGE, () -> Sample.house().printed(1, Integer.MAX_VALUE));
        due.fails("the least", Due.OUT_OF_RANGE, () -> Sample.house().printed(1, Integer.MIN_VALUE));
    }
}
