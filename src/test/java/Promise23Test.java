/** Promise 23: printed tells of a page as it was printed. */
public final class Promise23Test {
    public static void main(String[] args) {
        Due due = new Due("Promise23Test");
        printedPages(due);
        wrong(due);
        due.end();
    }

    private static void answers(Due due, String told, Panelry x, int page, int... dues) {
        for (int i = 0; i < dues.length; i++) {
            int what = i;
            due.is(told + ", " + what, dues[i], () -> x.printed(page, what));
        }
    }

    private static void printedPages(Due due) {
        Panelry x = Sample.house();
        answers(due, "not printed", x, 0, -1, -1, -1, -1, -1, -1, -1, -1, -1, -1, -1);
        answers(due, "printed leftward", x, 1, 4, 2, 4, 1, 0, -1, -1, -1, -1, -1, -1);
        x.pass(3);
        x.press(0);
        answers(due, "printed in the week 7", x, 0, 7, 3, 14, 0, 1, 2, -1, -1, -1, -1, -1);
        x.pass(50);
        answers(due, "printed in the week 7, later", x, 0, 7, 3, 14, 0, 1, 2, -1, -1, -1, -1, -1);
        answers(due, "without panels, not printed", x, 2, -1, -1, -1, -1, -1, -1, -1, -1, -1, -1, -1);
        x.press(2);
        answers(due, "without panels", x, 2, 57, 0, 0, -1, -1, -1, -1, -1, -1, -1, -1);
        Panelry full = Sample.fullPage(false);
        for (int i = 0; i < 20; i++) {
            full.balloon(0, i % 8, 0, 0, 2, 2, Panelry.NONE, 200 - i);
        }
        full.turn(0, true);
        full.pass(4);
        full.press(0);
        answers(due, "full", full, 0, 4, 8, 20 * 200 - 190, 1, 0, 3, 2, 5, 4, 7, 6);
        full.mirror(0);
        answers(due, "mirrored, not printed", full, 1, -1, -1, -1, -1, -1, -1, -1, -1, -1, -1, -1);
        full.pass(4);
        full.press(1);
        answers(due, "mirrored and printed", full, 1, 8, 8, 20 * 200 - 190, 1, 0, 3, 2, 5, 4, 7, 6);
    }

    private static void wrong(Due due) {
        due.refuses("-1 of a printed page", Due.OUT_OF_RANGE, x -> x.printed(1, -1));
        due.refuses("11 of a printed page", Due.OUT_OF_RANGE, x -> x.printed(1, 11));
        due.refuses("-1 of a page that was not printed", Due.OUT_OF_RANGE, x -> x.printed(0, -1));
        due.refuses("11 of a page that was not printed", Due.OUT_OF_RANGE, x -> x.printed(0, 11));
        due.refuses("the page -1", Due.NO_SUCH, x -> x.printed(-1, 0));
        due.refuses("the page 3", Due.NO_SUCH, x -> x.printed(3, 0));
        due.fails("no page, and out of range", Due.NO_SUCH, () -> Sample.house().printed(3, 11));
        due.fails("the greatest", Due.OUT_OF_RANGE, () -> Sample.house().printed(1, Integer.MAX_VALUE));
        due.fails("the least", Due.OUT_OF_RANGE, () -> Sample.house().printed(1, Integer.MIN_VALUE));
    }
}
