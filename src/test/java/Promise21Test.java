/** Promise 21: stage answers the stage of a page, 0 to 4. */
public final class Promise21Test {
    public static void main(String[] args) {
        Due due = new Due("Promise21Test");
        Panelry x = new Panelry();
        x.page(false);
        x.page(true);
        for (int week = 0; week < 10; week++) {
            int first = Math.min(week, 4);
            int second = Math.max(0, Math.min(week - 4, 4));
            due.is("page 0 in the week " + week, first, () -> x.stage(0));
            due.is("page 1 in the week " + week, second, () -> x.stage(1));
            x.pass(1);
        }
        due.is("a page that is changed stays at 4", 4, () -> {
            x.panel(0, 0, 0, 10, 10);
            x.turn(0, true);
            x.balloon(0, 0, 0, 0, 4, 4, Panelry.NONE, 1);
            x.move(0, 0, 4, 4);
            x.figure();
            x.draw(0, 0, 0, 0, 0, 4, 1, true);
            return x.stage(0);
        });
        due.is("a page that was printed stays at 4", 4, () -> {
            x.press(0);
            return x.stage(0);
        });
        due.is("the last one of 8 pages", 0, () -> {
            Panelry y = Sample.fullHouse();
            return y.stage(7);
        });
        due.fails("the page behind the last one of 8", Due.NO_SUCH, () -> Sample.fullHouse().stage(8));
        due.refuses("the page -1", Due.NO_SUCH, y -> y.stage(-1));
        due.refuses("the page 3", Due.NO_SUCH, y -> y.stage(3));
        due.fails("the greatest page", Due.NO_SUCH, () -> x.stage(Integer.MAX_VALUE));
        due.fails("the least page", Due.NO_SUCH, () -> x.stage(Integer.MIN_VALUE));
        due.end();
    }
}
