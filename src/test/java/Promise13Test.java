/** Promise 13: move moves a balloon. */
public final class Promise13Test {
    public static void main(String[] args) {
        Due due = new Due("Promise13Test");
        moves(due);
        ranges(due);
        full(due);
        wrong(due);
        due.end();
    }

    private static void moves(Due due) {
        Panelry x = new Panelry();
        x.page(false);
        x.panel(0, 0, 0, 30, 30);
        x.balloon(0, 0, 0, 0, 8, 6, Panelry.NONE, 6);
        x.balloon(0, 0, 10, 0, 10, 10, Panelry.NONE, 13);
        due.is("before it is moved", 0, () -> x.faults(0, 0));
        due.ends("move to the ends of the panel", () -> x.move(0, 0, 22, 24));
        due.is("its size is as it was", 0, () -> x.faults(0, 0));
        due.is("the other one is spoken behind it", 32 + 64, () -> x.faults(0, 1));
        due.ends("move beyond the panel's right end", () -> x.move(0, 0, 23, 24));
        due.is("it does not lie within it", 1, () -> x.faults(0, 0));
        due.ends("move beyond the panel's lower end", () -> x.move(0, 0, 22, 25));
        due.is("it does not lie within it either", 1, () -> x.faults(0, 0));
        due.ends("move over the other one", () -> x.move(0, 0, 9, 0));
        due.is("it overlaps it", 2, () -> x.faults(0, 0));
        due.ends("move to where it is", () -> x.move(0, 0, 9, 0));
        due.is("it overlaps it still", 2, () -> x.faults(0, 0));
        due.ends("move back", () -> x.move(0, 0, 0, 0));
        due.is("the letters of the other one are as they were", 32, () -> x.faults(0, 1));
    }

    private static void ranges(Due due) {
        int[][] right = {{0, 0}, {59, 79}, {0, 79}, {59, 0}};
        for (int[] r : right) {
            due.ends("move to " + r[0] + ", " + r[1], () -> Sample.house().move(0, 1, r[0], r[1]));
        }
        int[][] wrong = {
            {-1, 0}, {60, 0}, {0, -1}, {0, 80}, {Integer.MAX_VALUE, 0}, {0, Integer.MIN_VALUE},
        };
        for (int[] w : wrong) {
            due.refuses("move to " + w[0] + ", " + w[1], Due.OUT_OF_RANGE, x -> x.move(0, 1, w[0], w[1]));
        }
    }

    /** The first one and the last one of a full page are moved, each alone. */
    private static void full(Due due) {
        Panelry x = new Panelry();
        x.page(false);
        x.panel(0, 0, 0, 60, 80);
        for (int i = 0; i < 20; i++) {
            x.balloon(0, 0, i % 5 * 4, i / 5 * 4, 4, 4, Panelry.NONE, 1);
        }
        due.ends("move the first one", () -> x.move(0, 0, 59, 0));
        due.ends("move the last one", () -> x.move(0, 19, 0, 79));
        due.fails("move one behind the last one", Due.NO_SUCH, () -> x.move(0, 20, 0, 0));
        for (int balloon = 0; balloon < 20; balloon++) {
            int asked = balloon;
            int moved = balloon == 0 || balloon == 19 ? 1 : 0;
            due.is("whether it lies within the panel", moved, () -> x.faults(0, asked) & 3);
        }
        due.is("spoken behind the first one, to the left of it", 64, () -> x.faults(0, 1));
        due.is("spoken behind the first one, below it", 0, () -> x.faults(0, 5));
    }

    private static void wrong(Due due) {
        due.refuses("move on the page -1", Due.NO_SUCH, x -> x.move(-1, 0, 2, 2));
        due.refuses("move on the page 3", Due.NO_SUCH, x -> x.move(3, 0, 2, 2));
        due.refuses("move the balloon -1", Due.NO_SUCH, x -> x.move(0, -1, 2, 2));
        due.refuses("move the balloon 2", Due.NO_SUCH, x -> x.move(0, 2, 2, 2));
        due.fails("no balloon, and out of range", Due.NO_SUCH, () -> Sample.house().move(1, 1, 60, 2));
        Panelry x = printedBalloon();
        due.fails("move on a printed page", Due.NOT_NOW, () -> x.move(0, 0, 10, 10));
        due.is("it has not moved", 1, () -> x.faults(0, 0));
        due.fails("out of range, and printed", Due.OUT_OF_RANGE, () -> printedBalloon().move(0, 0, 0, 80));
    }

    private static Panelry printedBalloon() {
        Panelry x = new Panelry();
        x.page(false);
        x.panel(0, 0, 0, 20, 20);
        x.balloon(0, 0, 30, 30, 4, 4, Panelry.NONE, 1);
        x.pass(4);
        x.press(0);
        return x;
    }
}
