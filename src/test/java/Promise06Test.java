/** Promise 6: doubts counts the sets without a cut and those with like widest cuts both ways. */
public final class Promise06Test {
    public static void main(String[] args) {
        Due due = new Due("Promise06Test");
        doubts(due, "no panel", 0, 0);
        doubts(due, "one panel", 0, 0, at(0, 0, 60, 80));
        doubts(due, "two panels beside one another", 0, 0, at(0, 0, 20, 20), at(20, 0, 20, 20));
        doubts(due, "two panels above one another", 0, 0, at(0, 0, 20, 20), at(0, 20, 20, 20));
        doubts(due, "two panels aslant, like gutters", 1, 1, at(0, 0, 20, 20), at(25, 25, 20, 20));
        doubts(due, "two panels aslant, other gutters", 0, 0, at(0, 0, 20, 20), at(25, 26, 20, 20));
        doubts(due, "two panels corner to corner", 1, 1, at(0, 0, 20, 20), at(20, 20, 20, 20));
        doubts(due, "no cut", 1, 1,
                at(0, 0, 40, 20), at(40, 0, 20, 60), at(20, 60, 40, 20), at(0, 20, 20, 60), at(20, 20, 20, 40));
        doubts(due, "no cut behind a cut", 1, 1, at(0, 0, 20, 10), at(20, 0, 10, 20), at(10, 20, 20, 10),
                at(0, 10, 10, 20), at(10, 10, 10, 10), at(40, 0, 20, 80));
        doubts(due, "four panels with like gutters", 1, 1,
                at(0, 0, 20, 20), at(22, 0, 20, 20), at(0, 22, 20, 20), at(22, 22, 20, 20));
        doubts(due, "like gutters that are not the widest ones", 0, 0,
                at(0, 0, 10, 10), at(12, 0, 10, 10), at(0, 15, 10, 10), at(0, 27, 10, 10));
        doubts(due, "four panels around nothing", 1, 1,
                at(10, 20, 20, 10), at(0, 10, 10, 20), at(20, 0, 10, 20), at(0, 0, 20, 10));
        doubts(due, "gutters of 0 and 1", 0, 0, at(0, 0, 20, 20), at(20, 21, 20, 20));
        doubts(due, "gutters of 1 and 0", 0, 0, at(0, 0, 20, 20), at(21, 20, 20, 20));
        doubts(due, "gutters of 1 both", 1, 1, at(0, 0, 20, 20), at(21, 21, 20, 20));
        doubts(due, "eight panels aslant", 7, 7, at(0, 0, 4, 4), at(7, 7, 4, 4), at(14, 14, 4, 4),
                at(21, 21, 4, 4), at(28, 28, 4, 4), at(35, 35, 4, 4), at(42, 42, 4, 4), at(49, 49, 4, 4));
        doubts(due, "eight panels beside one another", 0, 0, at(0, 0, 4, 4), at(7, 0, 4, 4), at(14, 0, 4, 4),
                at(21, 0, 4, 4), at(28, 0, 4, 4), at(35, 0, 4, 4), at(42, 0, 4, 4), at(49, 0, 4, 4));
        doubts(due, "two sets of like gutters, one in the other", 2, 2,
                at(0, 0, 20, 20), at(24, 24, 4, 4), at(30, 30, 4, 4));
        doubts(due, "two sets of like gutters, beside one another", 2, 2,
                at(0, 0, 8, 10), at(10, 12, 8, 10), at(30, 0, 8, 10), at(40, 12, 8, 10));
        doubts(due, "more doubts leftward", 0, 1,
                at(0, 0, 18, 30), at(20, 0, 18, 30), at(0, 32, 18, 30), at(20, 32, 18, 30), at(40, 0, 18, 40));
        doubts(due, "more doubts rightward", 1, 0,
                at(40, 0, 18, 30), at(20, 0, 18, 30), at(40, 32, 18, 30), at(20, 32, 18, 30), at(0, 0, 18, 40));
        due.refuses("doubts of the page -1", Due.NO_SUCH, x -> x.doubts(-1));
        due.refuses("doubts of the page 3", Due.NO_SUCH, x -> x.doubts(3));
        due.end();
    }

    private static int[] at(int x, int y, int width, int height) {
        return new int[] {x, y, width, height};
    }

    private static void doubts(Due due, String told, int rightward, int leftward, int[]... panels) {
        Panelry x = Sample.pageOf(false, panels);
        due.is(told + ", rightward", rightward, () -> x.doubts(0));
        x.turn(0, true);
        due.is(told + ", leftward", leftward, () -> x.doubts(0));
    }
}
