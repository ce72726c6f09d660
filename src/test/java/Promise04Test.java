/** Promise 4: turn tells the direction of a page and answers what it was. */
public final class Promise04Test {
    public static void main(String[] args) {
        Due due = new Due("Promise04Test");
        Panelry x = new Panelry();
        x.page(true);
        x.page(false);
        due.holds("a page made leftward", true, () -> x.turn(0, true));
        due.holds("one turned to what it was", true, () -> x.turn(0, false));
        due.holds("one turned rightward", false, () -> x.turn(0, false));
        due.holds("a page made rightward", false, () -> x.turn(1, true));
        due.holds("one turned leftward", true, () -> x.turn(1, true));
        due.holds("the other page is as it was", false, () -> x.turn(0, false));
        due.refuses("turn of a printed page", Due.NOT_NOW, y -> y.turn(1, false));
        due.refuses("turn of a printed page to what it is", Due.NOT_NOW, y -> y.turn(1, true));
        due.refuses("turn of the page -1", Due.NO_SUCH, y -> y.turn(-1, true));
        due.refuses("turn of the page 3", Due.NO_SUCH, y -> y.turn(3, true));
        due.holds("turn of a page at the stage 4", false, () -> Sample.house().turn(0, true));
        due.is("the direction in which a page is printed", 1, () -> {
            Panelry y = Sample.house();
            y.turn(0, true);
            y.press(0);
            return y.printed(0, 3);
        });
        due.end();
    }
}
