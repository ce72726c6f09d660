/** Promise 1: a new object has no pages and figures, and its week is 0. */
public final class Promise01Test {
    public static void main(String[] args) {
        Due due = new Due("Promise01Test");
        due.fails("stage(0) without pages", Due.NO_SUCH, () -> new Panelry().stage(0));
        due.fails("mirror(0) without pages", Due.NO_SUCH, () -> new Panelry().mirror(0));
        due.is("the first page", 0, () -> new Panelry().page(true));
        due.is("the first figure", 0, () -> new Panelry().figure());
        due.is("the first telling", 0, () -> new Panelry().tell(0, 0, 0, false));
        due.is("breaks() at first", 0, () -> new Panelry().breaks());
        due.is("known() at first", Panelry.NONE, () -> new Panelry().known(0, 99, 200));
        due.is("contradictions() at first", 0, () -> new Panelry().contradictions(9));
        due.is("the workers at first", 1, () -> new Panelry().workers(5));
        due.is("the first week behind the week 0", 1, () -> new Panelry().pass(1));
        due.is("what is told at first is told in the week 0", 7, () -> {
            Panelry x = new Panelry();
            x.tell(3, 4, 7, false);
            return x.known(3, 4, 0);
        });
        due.fails("a new object has no figure to draw", Due.NO_SUCH, () -> {
            Panelry x = new Panelry();
            x.page(false);
            x.panel(0, 0, 0, 20, 20);
            x.draw(0, 0, 0, 0, 0, 2, 0, false);
        });
        due.fails("a new object has no figure that speaks", Due.NO_SUCH, () -> {
            Panelry x = new Panelry();
            x.page(false);
            x.panel(0, 0, 0, 20, 20);
            x.balloon(0, 0, 0, 0, 2, 2, 0, 1);
        });
        due.is("weeks pass without a page", 50, () -> new Panelry().pass(50));
        due.is("two objects share nothing", 0, () -> {
            Panelry x = new Panelry();
            x.page(false);
            x.figure();
            return new Panelry().figure() + new Panelry().page(false);
        });
        due.is("NONE", -1, () -> Panelry.NONE);
        due.end();
    }
}
