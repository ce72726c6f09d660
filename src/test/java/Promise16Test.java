/** Promise 16: tell tells of a fact in this week, at most 40 times. */
public final class Promise16Test {
    public static void main(String[] args) {
        Due due = new Due("Promise16Test");
        Panelry x = new Panelry();
        for (int i = 0; i < 40; i++) {
            int telling = i;
            due.is("telling " + i, i, () -> x.tell(telling % 10, telling * 2, telling % 7, telling % 3 == 0));
        }
        due.fails("a telling more than 40, of the fact 0", Due.NOT_NOW, () -> x.tell(0, 0, 0, false));
        due.fails("a telling more than 40", Due.NOT_NOW, () -> x.tell(9, 99, 9, true));
        due.fails("out of range behind 40", Due.OUT_OF_RANGE, () -> x.tell(9, 100, 9, true));
        due.fails("without a fact behind 40", Due.NO_SUCH, () -> x.tell(10, 100, 9, true));
        due.is("what was told last of the fact 9", 39 % 7, () -> x.known(9, 99, 0));
        due.is("the ranges' least", 0, () -> new Panelry().tell(0, 0, 0, true));
        due.is("the ranges' greatest", 0, () -> new Panelry().tell(9, 99, 9, true));
        due.refuses("the fact -1", Due.NO_SUCH, y -> y.tell(-1, 0, 0, false));
        due.refuses("the fact 10", Due.NO_SUCH, y -> y.tell(10, 0, 0, false));
        due.refuses("the time -1", Due.OUT_OF_RANGE, y -> y.tell(0, -1, 0, false));
        due.refuses("the time 100", Due.OUT_OF_RANGE, y -> y.tell(0, 100, 0, false));
        due.refuses("the value -1", Due.OUT_OF_RANGE, y -> y.tell(0, 0, -1, false));
        due.refuses("the value 10", Due.OUT_OF_RANGE, y -> y.tell(0, 0, 10, false));
        due.fails("no fact, and out of range", Due.NO_SUCH, () -> new Panelry().tell(10, 100, 10, false));
        inItsWeek(due);
        firstAndLast(due);
        due.end();
    }

    /** The first week and the last one, the first time and the last one. */
    private static void firstAndLast(Due due) {
        Panelry x = new Panelry();
        x.tell(0, 0, 1, false);
        due.is("told at first, known at once", 1, () -> x.known(0, 0, 0));
        for (int i = 0; i < 4; i++) {
            x.pass(50);
        }
        due.is("told in the last week", 1, () -> x.tell(0, 99, 2, false));
        due.is("not known in the week ahead", 1, () -> x.known(0, 99, 199));
        due.is("known in the last week", 2, () -> x.known(0, 99, 200));
        due.is("not known of the time ahead", 1, () -> x.known(0, 98, 200));
        for (int i = 2; i < 40; i++) {
            int telling = i;
            due.is("of the last week", telling, () -> x.tell(0, 99, telling % 10, false));
        }
        due.fails("a telling more than 40 in the last week", Due.NOT_NOW, () -> x.tell(0, 99, 0, false));
        due.is("the telling 39 is the last one", 9, () -> x.known(0, 99, 200));
    }

    private static void inItsWeek(Due due) {
        Panelry x = new Panelry();
        x.pass(50);
        x.tell(4, 20, 3, false);
        due.is("ahead of its week it is not known", Panelry.NONE, () -> x.known(4, 20, 49));
        due.is("in its week it is", 3, () -> x.known(4, 20, 50));
        due.is("ahead of its time it is not", Panelry.NONE, () -> x.known(4, 19, 50));
        due.is("of another fact it is not", Panelry.NONE, () -> x.known(5, 20, 50));
    }
}
