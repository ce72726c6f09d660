/** Promise 20: pass lets weeks pass, in which the workers work. */
public final class Promise20Test {
    public static void main(String[] args) {
        Due due = new Due("Promise20Test");
        weeks(due);
        work(due);
        laterPages(due);
        fewAndMany(due);
        atTheEnd(due);
        due.end();
    }

    private static void weeks(Due due) {
        Panelry x = new Panelry();
        due.is("one week", 1, () -> x.pass(1));
        due.is("50 weeks", 51, () -> x.pass(50));
        int[] wrong = {0, 51, -1, Integer.MAX_VALUE, Integer.MIN_VALUE, 150};
        for (int w : wrong) {
            due.fails(w + " weeks", Due.OUT_OF_RANGE, () -> x.pass(w));
        }
        due.is("50 weeks more", 101, () -> x.pass(50));
        due.is("and 50 more", 151, () -> x.pass(50));
        due.fails("up to the week 201", Due.NOT_NOW, () -> x.pass(50));
        due.is("up to the week 200", 200, () -> x.pass(49));
        due.fails("the week behind the last one", Due.NOT_NOW, () -> x.pass(1));
        due.fails("out of range, and behind the last one", Due.OUT_OF_RANGE, () -> x.pass(51));
        due.fails("none, at the last one", Due.OUT_OF_RANGE, () -> x.pass(0));
        due.is("an issue of the last week", 4, () -> {
            x.tell(0, 0, 4, false);
            return x.known(0, 0, 200);
        });
        due.is("it is of the last week", Panelry.NONE, () -> x.known(0, 0, 199));
        due.refuses("0 weeks", Due.OUT_OF_RANGE, y -> y.pass(0));
        due.refuses("51 weeks", Due.OUT_OF_RANGE, y -> y.pass(51));
        refusedAtTheEnd(due);
    }

    /** A pass that would go too far does no work either. */
    private static void refusedAtTheEnd(Due due) {
        Panelry x = new Panelry();
        for (int i = 0; i < 4; i++) {
            x.pass(49);
        }
        x.page(false);
        due.fails("from the week 196 to the week 201", Due.NOT_NOW, () -> x.pass(5));
        due.is("no work was done", 0, () -> x.stage(0));
        due.is("from the week 196 to the week 200", 200, () -> x.pass(4));
        due.is("the work was done", 4, () -> x.stage(0));
    }

    private static void stages(Due due, String told, Panelry x, int... dues) {
        for (int i = 0; i < dues.length; i++) {
            int page = i;
            due.is(told + ", page " + i, dues[i], () -> x.stage(page));
        }
    }

    private static void work(Due due) {
        Panelry x = new Panelry();
        for (int i = 0; i < 4; i++) {
            x.page(false);
        }
        x.pass(3);
        stages(due, "three weeks, one worker", x, 3, 0, 0, 0);
        x.pass(2);
        stages(due, "five weeks, one worker", x, 4, 1, 0, 0);
        x.workers(2);
        x.pass(1);
        stages(due, "a week with two workers", x, 4, 2, 1, 0);
        x.workers(5);
        x.pass(1);
        stages(due, "a week with five workers", x, 4, 3, 2, 1);
        x.workers(1);
        x.pass(1);
        stages(due, "a week with one worker", x, 4, 4, 2, 1);
        x.workers(2);
        x.pass(3);
        stages(due, "three weeks with two workers", x, 4, 4, 4, 4);
        x.pass(10);
        stages(due, "ten weeks more", x, 4, 4, 4, 4);
    }

    /** More workers than pages, and as many weeks as all the pages need. */
    private static void fewAndMany(Due due) {
        Panelry x = new Panelry();
        x.workers(5);
        due.is("weeks without pages", 3, () -> x.pass(3));
        x.page(false);
        x.pass(1);
        stages(due, "five workers, one page", x, 1);
        x.page(true);
        x.pass(1);
        stages(due, "five workers, two pages", x, 2, 1);
        x.pass(2);
        stages(due, "five workers, two pages, two weeks more", x, 4, 3);
        x.pass(1);
        stages(due, "five workers, two pages, one week more", x, 4, 4);
        for (int workers = 1; workers <= 5; workers++) {
            Panelry y = new Panelry();
            for (int i = 0; i < 8; i++) {
                y.page(false);
            }
            y.workers(workers);
            int full = 32 / workers;
            y.pass(full / 2);
            int done = 0;
            for (int i = 0; i < 8; i++) {
                done += y.stage(i);
            }
            int sum = done;
            due.is(workers + " workers, their stages together", workers * (full / 2), () -> sum);
        }
        Panelry one = new Panelry();
        for (int i = 0; i < 8; i++) {
            one.page(false);
        }
        one.pass(31);
        stages(due, "31 weeks, one worker", one, 4, 4, 4, 4, 4, 4, 4, 3);
        one.pass(1);
        stages(due, "32 weeks, one worker", one, 4, 4, 4, 4, 4, 4, 4, 4);
    }

    /** The last passes that are allowed and the first ones that are not. */
    private static void atTheEnd(Due due) {
        for (int behind = 0; behind <= 50; behind += 7) {
            Panelry x = new Panelry();
            for (int i = 0; i < 3; i++) {
                x.pass(50);
            }
            int left = 50 - behind;
            if (behind > 0) {
                int passed = behind;
                due.is(behind + " weeks from 150", 150 + behind, () -> x.pass(passed));
                due.fails(left + 1 + " weeks from " + (150 + behind), Due.NOT_NOW, () -> x.pass(left + 1));
            }
            due.is(left + " weeks up to 200", 200, () -> x.pass(left));
            due.fails("one week from 200", Due.NOT_NOW, () -> x.pass(1));
            due.fails("50 weeks from 200", Due.NOT_NOW, () -> x.pass(50));
        }
    }

    private static void laterPages(Due due) {
        Panelry x = new Panelry();
        x.page(false);
        x.pass(7);
        x.page(false);
        stages(due, "a page made later", x, 4, 0);
        x.press(0);
        x.mirror(0);
        x.pass(2);
        stages(due, "a printed page is not worked on", x, 4, 2, 0);
        x.workers(3);
        x.pass(2);
        stages(due, "a mirrored page is worked on", x, 4, 4, 2);
    }
}
