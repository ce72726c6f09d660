/** Promise 17: known answers what a reader of a week knows. */
public final class Promise17Test {
    public static void main(String[] args) {
        Due due = new Due("Promise17Test");
        latestTime(due);
        retcons(due);
        weeks(due);
        likeOnes(due);
        due.refuses("the fact -1", Due.NO_SUCH, x -> x.known(-1, 0, 0));
        due.refuses("the fact 10", Due.NO_SUCH, x -> x.known(10, 0, 0));
        due.refuses("the time -1", Due.OUT_OF_RANGE, x -> x.known(3, -1, 0));
        due.refuses("the time 100", Due.OUT_OF_RANGE, x -> x.known(3, 100, 0));
        due.refuses("the week -1", Due.OUT_OF_RANGE, x -> x.known(3, 0, -1));
        due.refuses("the week 201", Due.OUT_OF_RANGE, x -> x.known(3, 0, 201));
        due.fails("no fact, and out of range", Due.NO_SUCH, () -> new Panelry().known(10, -1, 201));
        due.is("the greatest of the ranges", 2, () -> Sample.house().known(3, 99, 200));
        due.is("the least of the ranges", Panelry.NONE, () -> Sample.house().known(0, 0, 0));
        due.end();
    }

    private static void latestTime(Due due) {
        Panelry x = new Panelry();
        x.tell(1, 50, 5, true);
        x.tell(1, 20, 2, false);
        x.tell(1, 80, 8, false);
        x.tell(2, 60, 6, true);
        int[][] dues = {{0, -1}, {19, -1}, {20, 2}, {49, 2}, {50, 5}, {79, 5}, {80, 8}, {99, 8}};
        for (int[] d : dues) {
            due.is("known at the time " + d[0], d[1], () -> x.known(1, d[0], 0));
        }
        due.is("of the other fact", 6, () -> x.known(2, 99, 0));
        due.is("of the other fact ahead of its time", Panelry.NONE, () -> x.known(2, 59, 0));
    }

    private static void retcons(Due due) {
        Panelry x = new Panelry();
        x.tell(7, 30, 1, false);
        x.tell(7, 30, 2, false);
        due.is("without a retcon the last one", 2, () -> x.known(7, 30, 0));
        x.tell(7, 30, 3, true);
        due.is("the retcon", 3, () -> x.known(7, 30, 0));
        x.tell(7, 30, 4, false);
        due.is("the retcon, not a later one that is none", 3, () -> x.known(7, 30, 0));
        x.tell(7, 30, 5, true);
        due.is("the last retcon", 5, () -> x.known(7, 30, 0));
        x.tell(7, 29, 6, true);
        due.is("not a retcon of a time ahead", 5, () -> x.known(7, 30, 0));
        due.is("the retcon of the time ahead", 6, () -> x.known(7, 29, 0));
        x.tell(7, 31, 0, false);
        due.is("one of a later time, though it is no retcon", 0, () -> x.known(7, 31, 0));
        due.is("not at a time ahead of it", 5, () -> x.known(7, 30, 0));
    }

    /** Tellings that are alike but for one thing, and tellings that are none of the fact's. */
    private static void likeOnes(Due due) {
        Panelry x = new Panelry();
        for (int fact = 0; fact < 10; fact++) {
            int asked = fact;
            due.is("nothing of the fact " + fact, Panelry.NONE, () -> x.known(asked, 99, 200));
        }
        x.tell(0, 40, 0, false);
        x.tell(9, 40, 9, false);
        for (int fact = 0; fact < 10; fact++) {
            int asked = fact;
            due.is("the fact " + fact, fact == 0 ? 0 : fact == 9 ? 9 : Panelry.NONE, () -> x.known(asked, 40, 0));
        }
        x.tell(0, 40, 5, true);
        x.tell(0, 40, 6, true);
        due.is("of two retcons of one week the last one", 6, () -> x.known(0, 40, 0));
        x.pass(1);
        x.tell(0, 40, 7, true);
        due.is("of two retcons of two weeks the later one", 7, () -> x.known(0, 40, 1));
        due.is("in the week ahead of it", 6, () -> x.known(0, 40, 0));
        x.tell(0, 39, 8, true);
        x.tell(0, 41, 1, false);
        due.is("not of the time ahead", 7, () -> x.known(0, 40, 1));
        due.is("of the time ahead", 8, () -> x.known(0, 39, 1));
        due.is("of the time ahead, in the week ahead", Panelry.NONE, () -> x.known(0, 39, 0));
        due.is("of the time behind", 1, () -> x.known(0, 41, 1));
        due.is("of the time behind, in the week ahead", 6, () -> x.known(0, 41, 0));
        x.tell(0, 41, 1, true);
        x.tell(0, 41, 1, false);
        due.is("the same value three times", 1, () -> x.known(0, 99, 200));
    }

    private static void weeks(Due due) {
        Panelry x = new Panelry();
        x.tell(0, 10, 1, false);
        x.pass(2);
        x.tell(0, 10, 2, true);
        x.tell(0, 5, 9, false);
        x.pass(3);
        x.tell(0, 10, 3, false);
        x.tell(0, 12, 4, false);
        int[][] dues = {{0, 1}, {1, 1}, {2, 2}, {4, 2}, {5, 2}, {200, 2}};
        for (int[] d : dues) {
            due.is("known in the week " + d[0], d[1], () -> x.known(0, 10, d[0]));
        }
        due.is("a later time in the week ahead", 2, () -> x.known(0, 12, 4));
        due.is("a later time in its week", 4, () -> x.known(0, 12, 5));
        due.is("of the past, told later, ahead of it", Panelry.NONE, () -> x.known(0, 9, 1));
        due.is("of the past, told later", 9, () -> x.known(0, 9, 2));
    }
}
