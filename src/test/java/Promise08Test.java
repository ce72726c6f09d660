/** Promise 8: isOne tells whether the reading keeps all ahead that have to come ahead. */
public final class Promise08Test {
    public static void main(String[] args) {
        Due due = new Due("Promise08Test");
        isOne(due, "no panel", true, true);
        isOne(due, "one panel", true, true, at(0, 0, 60, 80));
        isOne(due, "two panels beside one another", true, true, at(20, 0, 20, 20), at(0, 0, 20, 20));
        isOne(due, "rows", true, true, at(0, 0, 20, 20), at(22, 0, 20, 20), at(0, 24, 20, 20), at(22, 24, 20, 20));
        isOne(due, "columns are read against the rows", false, false,
                at(0, 0, 20, 20), at(24, 0, 20, 20), at(0, 22, 20, 20), at(24, 22, 20, 20));
        isOne(due, "a column beside rows", true, true,
                at(0, 0, 20, 80), at(22, 0, 20, 20), at(22, 24, 20, 20));
        isOne(due, "rows beside a column", true, true,
                at(22, 0, 20, 80), at(0, 0, 20, 20), at(0, 24, 20, 20));
        isOne(due, "no cut, by numbers out of order", false, false,
                at(0, 0, 40, 20), at(40, 0, 20, 60), at(20, 60, 40, 20), at(0, 20, 20, 60), at(20, 20, 20, 40));
        isOne(due, "no cut, by numbers in order rightward", true, false,
                at(0, 0, 40, 20), at(0, 20, 20, 60), at(20, 20, 20, 40), at(40, 0, 20, 60), at(20, 60, 40, 20));
        isOne(due, "stairs that rise to the right have no order", false, true,
                at(0, 10, 10, 10), at(10, 5, 10, 10), at(20, 0, 10, 10));
        due.holds("a full page", true, () -> Sample.fullPage(false).isOne(0, false));
        due.holds("a full page, in the other direction", true, () -> Sample.fullPage(false).isOne(0, true));
        isOne(due, "one panel beside a column that begins above it", false, true,
                at(0, 20, 20, 20), at(24, 0, 20, 20), at(24, 21, 20, 20));
        due.refuses("isOne of the page -1", Due.NO_SUCH, x -> x.isOne(-1, false));
        due.refuses("isOne of the page 3", Due.NO_SUCH, x -> x.isOne(3, true));
        due.end();
    }

    private static int[] at(int x, int y, int width, int height) {
        return new int[] {x, y, width, height};
    }

    private static void isOne(Due due, String told, boolean rightward, boolean leftward, int[]... panels) {
        for (int way = 0; way < 2; way++) {
            Panelry x = Sample.pageOf(way == 1, panels);
            due.holds(told + ", rightward", rightward, () -> x.isOne(0, false));
            due.holds(told + ", leftward", leftward, () -> x.isOne(0, true));
        }
    }
}
