/** Promise 22: press prints a page that is at the stage 4, once. */
public final class Promise22Test {
    public static void main(String[] args) {
        Due due = new Due("Promise22Test");
        Panelry x = new Panelry();
        x.page(false);
        x.panel(0, 0, 0, 20, 20);
        for (int stage = 0; stage < 4; stage++) {
            due.fails("press at the stage " + stage, Due.NOT_NOW, () -> x.press(0));
            due.is("it was not printed at the stage " + stage, Panelry.NONE, () -> x.printed(0, 1));
            x.pass(1);
        }
        due.is("what is changed at the stage 4", 1, () -> x.panel(0, 30, 0, 20, 20));
        due.is("press at the stage 4", 2, () -> x.press(0));
        due.fails("press once more", Due.NOT_NOW, () -> x.press(0));
        due.is("press of a page without panels", 0, () -> {
            x.page(true);
            x.pass(4);
            return x.press(1);
        });
        due.is("press of a full page", 8, () -> {
            Panelry y = Sample.fullPage(false);
            y.pass(4);
            return y.press(0);
        });
        due.is("press of a page in the last week", 8, () -> {
            Panelry y = Sample.fullPage(false);
            for (int i = 0; i < 4; i++) {
                y.pass(50);
            }
            return y.press(0);
        });
        due.is("press of each of 8 pages, none of which can be printed twice", 8, () -> {
            Panelry y = new Panelry();
            int printed = 0;
            for (int i = 0; i < 8; i++) {
                y.page(false);
            }
            y.pass(32);
            for (int i = 0; i < 8; i++) {
                int page = i;
                y.press(page);
                printed += y.printed(page, 0) == 32 ? 1 : 0;
                due.fails("press of the page " + i + " once more", Due.NOT_NOW, () -> y.press(page));
            }
            return printed;
        });
        due.refuses("press of a printed page", Due.NOT_NOW, y -> y.press(1));
        due.refuses("press of a page at the stage 0", Due.NOT_NOW, y -> y.press(2));
        due.refuses("press of the page -1", Due.NO_SUCH, y -> y.press(-1));
        due.refuses("press of the page 3", Due.NO_SUCH, y -> y.press(3));
        nothingIsChanged(due);
        due.end();
    }

    /** All that changes a page is refused once it was printed, but what only asks is not. */
    private static void nothingIsChanged(Due due) {
        Panelry x = Sample.house();
        x.press(0);
        due.fails("panel", Due.NOT_NOW, () -> x.panel(0, 50, 0, 4, 4));
        due.fails("turn", Due.NOT_NOW, () -> x.turn(0, true));
        due.fails("draw", Due.NOT_NOW, () -> x.draw(0, 0, 0, 2, 20, 6, 9, false));
        due.fails("balloon", Due.NOT_NOW, () -> x.balloon(0, 0, 2, 2, 4, 4, 0, 1));
        due.fails("move", Due.NOT_NOW, () -> x.move(0, 0, 2, 2));
        due.is("breaks", 1, x::breaks);
        due.is("faults", 0, () -> x.faults(0, 0));
        due.is("doubts", 0, () -> x.doubts(0));
        due.is("mirror", 3, () -> x.mirror(0));
    }
}
