/** Promise 15: breaks counts what figures wear anew without a change told. */
public final class Promise15Test {
    private static final Due DUE = new Due("Promise15Test");

    public static void main(String[] args) {
        alongOnePage();
        alongTheHouse();
        byTheReading();
        manyFigures();
        nothingAndAll();
        DUE.end();
    }

    /** Pages of three panels beside one another each. */
    private static Panelry house(boolean... directions) {
        Panelry x = new Panelry();
        for (int page = 0; page < directions.length; page++) {
            x.page(directions[page]);
            for (int panel = 0; panel < 3; panel++) {
                x.panel(page, panel * 20, 0, 18, 40);
            }
        }
        for (int i = 0; i < 12; i++) {
            x.figure();
        }
        return x;
    }

    private static void wear(Panelry x, int page, int panel, int figure, int wears, boolean changes) {
        x.draw(page, panel, figure, panel * 20, 0, 4, wears, changes);
    }

    private static void alongOnePage() {
        Panelry x = house(false);
        wear(x, 0, 1, 0, 4, false);
        DUE.is("in one panel", 0, x::breaks);
        wear(x, 0, 0, 0, 4, false);
        DUE.is("the same in two panels", 0, x::breaks);
        wear(x, 0, 2, 0, 5, false);
        DUE.is("something else in the third one", 1, x::breaks);
        wear(x, 0, 2, 0, 5, true);
        DUE.is("with a change told", 0, x::breaks);
        wear(x, 0, 1, 0, 6, false);
        DUE.is("something else between them", 1, x::breaks);
        wear(x, 0, 2, 0, 5, false);
        DUE.is("something else each time", 2, x::breaks);
        wear(x, 0, 2, 0, 4, false);
        DUE.is("back to what it wore first", 2, x::breaks);
        wear(x, 0, 1, 0, 4, true);
        DUE.is("a change told without one", 0, x::breaks);
        wear(x, 0, 0, 0, 0, false);
        DUE.is("0 is worn as well", 0, x::breaks);
        wear(x, 0, 1, 0, 0, false);
        DUE.is("0, then 4", 1, x::breaks);
        wear(x, 0, 0, 0, 9, true);
        DUE.is("a change told where it wore something first is none for what follows", 2, x::breaks);
    }

    private static void alongTheHouse() {
        Panelry x = house(false, false, false);
        wear(x, 2, 2, 3, 1, false);
        wear(x, 0, 2, 3, 2, false);
        DUE.is("from the page 0 to the page 2", 1, x::breaks);
        wear(x, 1, 0, 3, 1, true);
        DUE.is("a change told on the page between", 0, x::breaks);
        wear(x, 1, 1, 3, 2, false);
        DUE.is("and another one not told", 2, x::breaks);
        DUE.is("a page is mirrored", 3, () -> x.mirror(0));
        DUE.is("the mirrored page comes behind the others", 3, x::breaks);
        x.workers(5);
        x.pass(8);
        x.press(1);
        DUE.is("a printed page is the story's as well", 3, x::breaks);
        DUE.is("a page without panels", 4, () -> x.page(true));
        DUE.is("it does not count", 3, x::breaks);
    }

    private static void byTheReading() {
        Panelry x = house(false);
        wear(x, 0, 0, 0, 1, false);
        wear(x, 0, 1, 0, 2, true);
        wear(x, 0, 2, 0, 3, true);
        DUE.is("rightward both changes are told", 0, x::breaks);
        x.turn(0, true);
        DUE.is("leftward the last one is not told", 1, x::breaks);
        wear(x, 0, 2, 0, 3, false);
        DUE.is("leftward the first one needs none", 1, x::breaks);
        x.turn(0, false);
        DUE.is("rightward it does", 1, x::breaks);
        Panelry y = new Panelry();
        y.page(false);
        y.panel(0, 0, 40, 60, 20);
        y.panel(0, 0, 0, 60, 20);
        y.figure();
        y.draw(0, 0, 0, 0, 40, 4, 1, true);
        y.draw(0, 1, 0, 0, 0, 4, 2, false);
        DUE.is("by the reading, not by the numbers", 0, y::breaks);
    }

    /** No pages, no panels, no figures; and as many breaks as there can be. */
    private static void nothingAndAll() {
        Panelry x = new Panelry();
        DUE.is("without pages", 0, x::breaks);
        x.page(false);
        DUE.is("without panels", 0, x::breaks);
        x.panel(0, 0, 0, 20, 20);
        DUE.is("without figures", 0, x::breaks);
        x.figure();
        DUE.is("without a figure that is drawn", 0, x::breaks);
        x.draw(0, 0, 0, 0, 0, 4, 9, false);
        DUE.is("with a figure in one panel", 0, x::breaks);
        x.mirror(0);
        DUE.is("the same on the page behind", 0, x::breaks);
        x.draw(1, 0, 0, 40, 0, 4, 8, false);
        DUE.is("something else on the page behind", 1, x::breaks);
        x.draw(0, 0, 0, 0, 0, 4, 8, false);
        DUE.is("the same again on the page ahead", 0, x::breaks);
        Panelry all = Sample.fullPage(false);
        for (int figure = 0; figure < 12; figure++) {
            all.figure();
            for (int panel = 0; panel < 8; panel++) {
                all.draw(0, panel, figure, panel % 2 * 30, panel / 2 * 20, 4, panel % 2 * 9, false);
            }
        }
        for (int page = 1; page < 8; page++) {
            int due = 12 * (8 * page - 1);
            DUE.is("all figures on " + page + " full pages", due, all::breaks);
            all.mirror(page - 1);
        }
        DUE.is("all figures on 8 full pages", 12 * 63, all::breaks);
    }

    private static void manyFigures() {
        Panelry x = house(true, false);
        for (int figure = 0; figure < 12; figure++) {
            wear(x, 0, 0, figure, figure % 10, false);
            wear(x, 1, 1, figure, 5, false);
        }
        DUE.is("each figure by itself", 11, x::breaks);
        wear(x, 1, 0, 11, 5, true);
        DUE.is("each figure by itself, one told", 10, x::breaks);
    }
}
