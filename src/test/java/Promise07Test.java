/** Promise 7: orders counts the orders that keep the panels above ahead, and those on the one side. */
public final class Promise07Test {
    public static void main(String[] args) {
        Due due = new Due("Promise07Test");
        orders(due, "no panel", 1, 1);
        orders(due, "one panel", 1, 1, at(0, 0, 60, 80));
        orders(due, "two panels beside one another", 1, 1, at(0, 0, 20, 20), at(20, 0, 20, 20));
        orders(due, "two panels corner to corner", 1, 1, at(0, 0, 20, 20), at(20, 20, 20, 20));
        orders(due, "stairs that rise to the right", 0, 1, at(0, 10, 10, 10), at(10, 5, 10, 10), at(20, 0, 10, 10));
        orders(due, "stairs that sink to the right", 1, 0, at(0, 0, 10, 10), at(10, 5, 10, 10), at(20, 10, 10, 10));
        orders(due, "stairs that rise by less than to wholly above", 1, 1,
                at(0, 10, 10, 11), at(10, 5, 10, 10), at(20, 0, 10, 11));
        orders(due, "stairs that rise beside one another, told the other way round", 0, 1,
                at(20, 0, 10, 10), at(10, 5, 10, 10), at(0, 10, 10, 10));
        orders(due, "the panels around a middle", 1, 1,
                at(0, 0, 40, 20), at(40, 0, 20, 60), at(20, 60, 40, 20), at(0, 20, 20, 60), at(20, 20, 20, 40));
        orders(due, "four panels around nothing", 1, 1,
                at(10, 20, 20, 10), at(0, 10, 10, 20), at(20, 0, 10, 20), at(0, 0, 20, 10));
        orders(due, "eight panels aslant", 1, 1, at(0, 0, 4, 4), at(7, 7, 4, 4), at(14, 14, 4, 4),
                at(21, 21, 4, 4), at(28, 28, 4, 4), at(35, 35, 4, 4), at(42, 42, 4, 4), at(49, 49, 4, 4));
        orders(due, "three panels, the last one level with both by 1", 1, 0,
                at(0, 0, 10, 11), at(20, 11, 10, 10), at(10, 10, 10, 4));
        orders(due, "three panels, the last one level with the second alone", 1, 1,
                at(0, 0, 10, 10), at(20, 11, 10, 10), at(10, 10, 10, 4));
        due.is("eight panels in rows", 1, () -> Sample.fullPage(false).orders(0, true));
        due.is("eight panels in rows, rightward", 1, () -> Sample.fullPage(true).orders(0, false));
        due.is("stairs of two on a page of eight panels", 0, () -> {
            Panelry x = new Panelry();
            x.page(false);
            for (int i = 0; i < 5; i++) {
                x.panel(0, 0, i * 10, 50, 10);
            }
            x.panel(0, 0, 65, 10, 10);
            x.panel(0, 10, 60, 10, 10);
            x.panel(0, 20, 55, 10, 10);
            return x.orders(0, false);
        });
        due.refuses("orders of the page -1", Due.NO_SUCH, x -> x.orders(-1, false));
        due.refuses("orders of the page 3", Due.NO_SUCH, x -> x.orders(3, true));
        due.end();
    }

    private static int[] at(int x, int y, int width, int height) {
        return new int[] {x, y, width, height};
    }

    private static void orders(Due due, String told, int rightward, int leftward, int[]... panels) {
        for (int way = 0; way < 2; way++) {
            Panelry x = Sample.pageOf(way == 1, panels);
            due.is(told + ", rightward", rightward, () -> x.orders(0, false));
            due.is(told + ", leftward", leftward, () -> x.orders(0, true));
        }
    }
}
