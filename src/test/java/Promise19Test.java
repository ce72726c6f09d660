/** Promise 19: workers tells how many workers there are and answers how many there were. */
public final class Promise19Test {
    public static void main(String[] args) {
        Due due = new Due("Promise19Test");
        Panelry x = new Panelry();
        due.is("one at first", 1, () -> x.workers(5));
        due.is("then 5", 5, () -> x.workers(3));
        due.is("then 3", 3, () -> x.workers(3));
        int[] wrong = {0, 6, -1, Integer.MAX_VALUE, Integer.MIN_VALUE};
        for (int w : wrong) {
            due.fails(w + " workers", Due.OUT_OF_RANGE, () -> x.workers(w));
        }
        due.is("still 3", 3, () -> x.workers(1));
        due.refuses("0 workers", Due.OUT_OF_RANGE, y -> y.workers(0));
        for (int workers = 1; workers <= 5; workers++) {
            int told = workers;
            Panelry y = new Panelry();
            for (int i = 0; i < 6; i++) {
                y.page(false);
            }
            y.workers(told);
            y.pass(1);
            for (int i = 0; i < 6; i++) {
                int page = i;
                due.is("the page " + i + " with " + told + " workers", i < told ? 1 : 0, () -> y.stage(page));
            }
        }
        due.end();
    }
}
