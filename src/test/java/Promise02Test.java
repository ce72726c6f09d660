/** Promise 2: page makes a page, at most 8. */
public final class Promise02Test {
    public static void main(String[] args) {
        Due due = new Due("Promise02Test");
        Panelry x = new Panelry();
        for (int i = 0; i < 8; i++) {
            boolean isLeftward = i % 3 == 0;
            due.is("page " + i, i, () -> x.page(isLeftward));
        }
        due.fails("a page more than 8", Due.NOT_NOW, () -> x.page(false));
        due.fails("once more, leftward", Due.NOT_NOW, () -> x.page(true));
        due.fails("the page ahead of the first one", Due.NO_SUCH, () -> x.stage(-1));
        due.fails("the page that was not made", Due.NO_SUCH, () -> x.stage(8));
        for (int i = 0; i < 8; i++) {
            int page = i;
            due.holds("the direction of page " + i, i % 3 == 0, () -> x.turn(page, false));
            due.is("the stage of page " + i, 0, () -> x.stage(page));
            due.is("the panels of page " + i, 0, () -> x.panel(page, 0, 0, 4, 4));
        }
        due.end();
    }
}
