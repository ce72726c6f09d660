/** Promise 10: figure makes a figure, at most 12. */
public final class Promise10Test {
    public static void main(String[] args) {
        Due due = new Due("Promise10Test");
        Panelry x = new Panelry();
        x.page(false);
        x.panel(0, 0, 0, 60, 80);
        for (int i = 0; i < 12; i++) {
            int figure = i;
            due.fails("the figure " + i + " is not made yet", Due.NO_SUCH, () -> x.draw(0, 0, figure, 0, 0, 2, 0, false));
            due.is("figure " + i, i, x::figure);
            due.ends("the figure " + i + " can be drawn", () -> x.draw(0, 0, figure, 0, 0, 2, 0, false));
        }
        due.fails("a figure more than 12", Due.NOT_NOW, x::figure);
        due.fails("once more", Due.NOT_NOW, x::figure);
        due.fails("the figure that was not made", Due.NO_SUCH, () -> x.draw(0, 0, 12, 0, 0, 2, 0, false));
        due.end();
    }
}
