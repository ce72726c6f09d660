/** Promise 9: mirror makes a page across, with all that is in it, read in the other direction. */
public final class Promise09Test {
    public static void main(String[] args) {
        Due due = new Due("Promise09Test");
        panels(due);
        facesAndBalloons(due);
        work(due);
        emptyAndFull(due);
        limits(due);
        due.end();
    }

    private static void panels(Due due) {
        Panelry x = new Panelry();
        x.page(false);
        x.panel(0, 1, 0, 10, 10);
        x.panel(0, 20, 12, 30, 20);
        due.is("mirror", 1, () -> x.mirror(0));
        due.fails("a panel over the mirrored panel 0", Due.NOT_NOW, () -> x.panel(1, 46, 6, 4, 4));
        due.fails("a panel over the mirrored panel 0, its right end", Due.NOT_NOW, () -> x.panel(1, 55, 6, 4, 4));
        due.is("a panel to the left of the mirrored panel 0", 2, () -> x.panel(1, 45, 0, 4, 4));
        due.is("a panel to the left of the mirrored panel 1", 3, () -> x.panel(1, 6, 12, 4, 4));
        due.is("a panel to the right of the mirrored panel 1", 4, () -> x.panel(1, 40, 12, 4, 20));
        due.fails("what is put on the mirrored page is not on the first one", Due.NO_SUCH, () -> x.read(0, false, 2));
        due.same("the reading of the first one", "01", Sample.reading(x, 0, false, 2));
        due.holds("the direction of the mirrored page", true, () -> x.turn(1, false));
        due.holds("the direction of the first one", false, () -> x.turn(0, false));
        Panelry full = Sample.fullPage(true);
        full.mirror(0);
        due.same("a full page, mirrored", "10325476", Sample.reading(full, 0, true, 8));
        due.same("a full page, the mirrored reading", "10325476", Sample.reading(full, 1, false, 8));
        due.same("a full page, the mirrored reading leftward", "01234567", Sample.reading(full, 1, true, 8));
    }

    private static void facesAndBalloons(Due due) {
        Panelry x = new Panelry();
        x.page(false);
        x.panel(0, 0, 0, 40, 40);
        x.figure();
        x.figure();
        x.draw(0, 0, 0, 1, 30, 5, 3, true);
        x.balloon(0, 0, 1, 1, 8, 8, 0, 5);
        x.balloon(0, 0, 20, 1, 8, 8, 1, 9);
        x.balloon(0, 0, 4, 28, 8, 8, Panelry.NONE, 1);
        x.mirror(0);
        due.is("the mirrored balloon 0", 0, () -> x.faults(1, 0) & 15);
        due.is("the mirrored balloon 1, without its speaker and tight", 8 + 32, () -> x.faults(1, 1));
        due.is("the mirrored balloon 2, over the mirrored face", 4, () -> x.faults(1, 2));
        due.fails("there is no balloon 3", Due.NO_SUCH, () -> x.faults(1, 3));
        due.ends("the balloon moves to the left end of its panel", () -> x.move(1, 2, 20, 10));
        due.is("and lies within it", 0, () -> x.faults(1, 2));
        due.ends("the balloon moves one beyond it", () -> x.move(1, 2, 19, 10));
        due.is("and does not lie within it", 1, () -> x.faults(1, 2));
        due.is("the first one has not moved", 4, () -> x.faults(0, 2));
        due.ends("the balloon moves beside the mirrored face", () -> x.move(1, 2, 46, 30));
        due.is("and does not overlap it", 0, () -> x.faults(1, 2) & 4);
        due.ends("the balloon moves over the mirrored face's left end", () -> x.move(1, 2, 47, 30));
        due.is("and overlaps it", 4, () -> x.faults(1, 2) & 4);
        due.is("a change is mirrored as well, so there is no break", 0, x::breaks);
        due.ends("a figure is drawn anew on the first page", () -> x.draw(0, 0, 0, 1, 30, 5, 4, true));
        due.ends("and on the mirrored page without a change", () -> x.draw(1, 0, 0, 30, 10, 5, 3, false));
        due.is("the mirrored page is the story's as well", 1, x::breaks);
        due.is("what is drawn on the mirrored page is not on the first one", 4, () -> x.faults(0, 2));
        changes(due);
        due.is("a mirrored page can be mirrored", 2, () -> x.mirror(1));
        due.is("its balloon 1 is back in its place", 8 + 32, () -> x.faults(2, 1));
        beyondThePage(due);
        roundedMiddles(due);
    }

    /** Behind the page the first panel's change is not told, and the second one's is, as on the page itself. */
    private static void changes(Due due) {
        Panelry x = Sample.pageOf(true, new int[] {0, 0, 20, 20}, new int[] {30, 0, 20, 20});
        x.figure();
        x.draw(0, 1, 0, 30, 0, 4, 1, false);
        x.draw(0, 0, 0, 0, 0, 4, 2, true);
        due.is("ahead of the mirror", 0, x::breaks);
        x.mirror(0);
        due.is("what is told as a change on the page is on the mirrored one too", 1, x::breaks);
        x.mirror(1);
        due.is("and on its mirrored one", 2, x::breaks);
        x.draw(1, 1, 0, 10, 0, 4, 1, true);
        due.is("a change is told on the mirrored page alone", 1, x::breaks);
    }

    /** Half of an odd width is rounded down on both sides, so a tail may come to lie on an edge. */
    private static void roundedMiddles(Due due) {
        Panelry x = new Panelry();
        x.page(true);
        x.panel(0, 0, 0, 60, 60);
        x.figure();
        x.draw(0, 0, 0, 8, 48, 5, 0, false);
        x.balloon(0, 0, 8, 8, 5, 5, 0, 1);
        x.balloon(0, 0, 11, 30, 4, 4, Panelry.NONE, 1);
        x.mirror(0);
        due.is("a tail beside a rectangle", 0, () -> x.faults(0, 0));
        due.is("the same, mirrored", 16, () -> x.faults(1, 0));
    }

    /** A balloon that reaches beyond the right end of the page reaches beyond the left one, mirrored. */
    private static void beyondThePage(Due due) {
        Panelry x = new Panelry();
        x.page(false);
        x.panel(0, 0, 0, 60, 80);
        x.balloon(0, 0, 59, 0, 60, 10, Panelry.NONE, 1);
        x.balloon(0, 0, 0, 0, 2, 10, Panelry.NONE, 1);
        x.mirror(0);
        due.is("a balloon beyond the left end", 1, () -> x.faults(1, 0));
        due.is("leftward its right end is ahead", 64, () -> x.faults(1, 1));
        x.turn(1, false);
        due.is("rightward its place is ahead", 0, () -> x.faults(1, 1));
        x.mirror(1);
        due.is("back beyond the right end", 1, () -> x.faults(2, 0));
        x.turn(2, false);
        due.is("back at the left end", 64, () -> x.faults(2, 1));
    }

    private static void work(Due due) {
        Panelry x = Sample.house();
        due.is("mirror of a printed page", 3, () -> x.mirror(1));
        due.is("its stage", 0, () -> x.stage(3));
        due.is("it was not printed", Panelry.NONE, () -> x.printed(3, 0));
        due.is("it can be changed", 2, () -> x.panel(3, 0, 40, 10, 10));
        due.is("what was printed is as it was", 2, () -> x.printed(1, 1));
        due.is("mirror of a page at the stage 4", 4, () -> x.mirror(0));
        due.is("its stage, too", 0, () -> x.stage(4));
        due.fails("it can not be printed yet", Due.NOT_NOW, () -> x.press(4));
        x.pass(4);
        due.is("it can be printed in time", 3, () -> x.press(4));
    }

    private static void emptyAndFull(Due due) {
        Panelry x = new Panelry();
        x.page(true);
        due.is("mirror of a page without panels", 1, () -> x.mirror(0));
        due.fails("it has no panels", Due.NO_SUCH, () -> x.read(1, false, 0));
        due.fails("it has no balloons", Due.NO_SUCH, () -> x.faults(1, 0));
        due.is("it can have one", 0, () -> x.panel(1, 0, 0, 60, 80));
        due.holds("its direction is the other one", false, () -> x.turn(1, false));
        due.is("mirror of a panel that is the whole page", 2, () -> x.mirror(1));
        due.fails("it is the whole page too", Due.NOT_NOW, () -> x.panel(2, 56, 76, 4, 4));
        Panelry full = Sample.busyHouse();
        due.is("mirror of a full page", 3, () -> full.mirror(0));
        due.fails("it has no room for a panel", Due.NOT_NOW, () -> full.panel(3, 0, 0, 4, 4));
        due.fails("it has no room for a balloon", Due.NOT_NOW, () -> full.balloon(3, 0, 40, 2, 4, 4, 0, 1));
        for (int balloon = 0; balloon < 20; balloon++) {
            int asked = balloon;
            int mirrored = balloon < 8 ? 0 : 64;
            due.is("mirrored, the order of balloon " + balloon, 0, () -> full.faults(0, asked) & 64);
            due.is("mirrored, the order of its balloon " + balloon, 0, () -> full.faults(3, asked) & 64);
            due.is("mirrored and turned, the order of its balloon " + balloon, mirrored, () -> {
                full.turn(3, false);
                int turned = full.faults(3, asked) & 64;
                full.turn(3, true);
                return turned;
            });
            due.is("mirrored, the faults 1 to 8 and 32 of its balloon " + balloon, full.faults(0, balloon) & 47,
                    () -> full.faults(3, asked) & 47);
        }
    }

    private static void limits(Due due) {
        Panelry x = new Panelry();
        for (int i = 0; i < 7; i++) {
            x.page(false);
        }
        due.is("the page 7 is a mirrored one", 7, () -> x.mirror(2));
        due.fails("mirror with 8 pages", Due.NOT_NOW, () -> x.mirror(2));
        due.fails("mirror of the last page with 8 pages", Due.NOT_NOW, () -> x.mirror(7));
        due.fails("mirror of the page ahead of the first one with 8 pages", Due.NO_SUCH, () -> x.mirror(-1));
        due.fails("mirror of none with 8 pages", Due.NO_SUCH, () -> x.mirror(8));
        due.fails("there is no page 8", Due.NO_SUCH, () -> x.stage(8));
        due.refuses("mirror of the page -1", Due.NO_SUCH, y -> y.mirror(-1));
        due.refuses("mirror of the page 3", Due.NO_SUCH, y -> y.mirror(3));
    }
}
