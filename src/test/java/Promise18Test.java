/** Promise 18: contradictions counts the pairs of tellings that contradict one another. */
public final class Promise18Test {
    public static void main(String[] args) {
        Due due = new Due("Promise18Test");
        Panelry x = new Panelry();
        due.is("without a telling", 0, () -> x.contradictions(6));
        x.tell(6, 40, 1, false);
        due.is("one telling", 0, () -> x.contradictions(6));
        x.tell(6, 40, 1, false);
        due.is("the same value", 0, () -> x.contradictions(6));
        x.tell(6, 41, 2, false);
        due.is("another time", 0, () -> x.contradictions(6));
        x.tell(5, 40, 2, false);
        due.is("another fact", 0, () -> x.contradictions(6));
        x.tell(6, 40, 3, true);
        due.is("a later retcon", 0, () -> x.contradictions(6));
        x.pass(1);
        x.tell(6, 40, 1, false);
        due.is("other than the retcon alone", 1, () -> x.contradictions(6));
        x.tell(6, 40, 4, false);
        due.is("other than the four ahead", 5, () -> x.contradictions(6));
        x.tell(6, 40, 5, true);
        due.is("one more retcon", 5, () -> x.contradictions(6));
        x.tell(6, 41, 3, false);
        due.is("of another time", 6, () -> x.contradictions(6));
        due.is("the other fact", 0, () -> x.contradictions(5));
        due.is("contradictions of the fact 0", 0, () -> x.contradictions(0));
        due.is("as many as there can be", 780 - 4 * 45, () -> {
            Panelry y = new Panelry();
            for (int i = 0; i < 40; i++) {
                y.tell(9, 99, i / 10, false);
            }
            return y.contradictions(9);
        });
        due.is("as many values as there can be", 780 - 10 * 6, () -> {
            Panelry y = new Panelry();
            for (int i = 0; i < 40; i++) {
                y.tell(0, 0, i % 10, false);
            }
            return y.contradictions(0);
        });
        due.is("retcons alone", 0, () -> {
            Panelry y = new Panelry();
            for (int i = 0; i < 40; i++) {
                y.tell(0, 0, i % 10, true);
            }
            return y.contradictions(0);
        });
        due.is("one behind 39 retcons", 39, () -> {
            Panelry y = new Panelry();
            for (int i = 0; i < 39; i++) {
                y.tell(0, 99, i % 9, true);
            }
            y.tell(0, 99, 9, false);
            return y.contradictions(0);
        });
        due.refuses("the fact -1", Due.NO_SUCH, y -> y.contradictions(-1));
        due.refuses("the fact 10", Due.NO_SUCH, y -> y.contradictions(10));
        due.end();
    }
}
