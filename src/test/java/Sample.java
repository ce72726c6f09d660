/** A house in which each kind of state is there, for the calls that have to leave it as it is. */
final class Sample {
    private Sample() {
    }

    /** Pages: 0 of three panels, at the stage 4; 1 printed; 2 without panels, at the stage 0. */
    static Panelry house() {
        Panelry x = new Panelry();
        x.page(false);
        x.page(true);
        x.panel(0, 0, 0, 30, 30);
        x.panel(0, 30, 0, 20, 30);
        x.panel(0, 0, 40, 60, 30);
        x.panel(1, 0, 0, 20, 20);
        x.panel(1, 30, 0, 20, 20);
        x.figure();
        x.figure();
        x.draw(0, 0, 0, 2, 20, 6, 1, false);
        x.draw(0, 1, 0, 32, 20, 6, 2, false);
        x.draw(1, 0, 1, 2, 2, 4, 3, false);
        x.balloon(0, 0, 2, 2, 8, 6, 0, 5);
        x.balloon(0, 0, 14, 2, 8, 6, 1, 9);
        x.balloon(1, 1, 31, 2, 8, 6, Panelry.NONE, 4);
        x.tell(3, 10, 1, false);
        x.workers(5);
        x.pass(4);
        x.tell(3, 10, 2, false);
        x.press(1);
        x.page(false);
        return x;
    }

    /** A page of the eight panels 0 to 7 in two columns and four rows. */
    static Panelry fullPage(boolean isLeftward) {
        Panelry x = new Panelry();
        x.page(isLeftward);
        for (int i = 0; i < 8; i++) {
            x.panel(0, i % 2 * 30, i / 2 * 20, 30, 20);
        }
        return x;
    }

    /** A page 0 of these panels, each given by x, y, width and height. */
    static Panelry pageOf(boolean isLeftward, int[]... panels) {
        Panelry x = new Panelry();
        x.page(isLeftward);
        for (int[] p : panels) {
            x.panel(0, p[0], p[1], p[2], p[3]);
        }
        return x;
    }

    /** The reading of a page as one text. */
    static String reading(Panelry x, int page, boolean isLeftward, int panels) {
        StringBuilder text = new StringBuilder();
        for (int at = 0; at < panels; at++) {
            text.append(x.read(page, isLeftward, at));
        }
        return text.toString();
    }
}
