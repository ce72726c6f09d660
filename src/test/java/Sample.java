/** A house in which each kind of state is there, for the calls that have to leave it as it is. */
final class Sample {
    private Sample() {
    }

    /** Pages: 0 of three panels, at the stage 4; 1 printed; 2 without panels, at the stage 0. */
    static Panelry house() {
        Panelry x = new Panelry();
        x.page(false);
        x.page(true);
        x.panel(0, 0, 0, 30, 30);
        x.panel(0, 30, 0, 20, 30);
        x.panel(0, 0, 40, 60, 30);
        x.panel(1, 0, 0, 20, 20);
        x.panel(1, 30, 0, 20, 20);
        x.figure();
        x.figure();
        x.draw(0, 0, 0, 2, 20, 6, 1, false);
        x.draw(0, 1, 0, 32, 20, 6, 2, false);
        x.draw(1, 0, 1, 2, 2, 4, 3, false);
        x.balloon(0, 0, 2, 2, 8, 6, 0, 5);
        x.balloon(0, 0, 14, 2, 8, 6, 1, 9);
        x.balloon(1, 1, 31, 2, 8, 6, Panelry.NONE, 4);
        x.tell(3, 10, 1, false);
        x.workers(5);
        x.pass(4);
        x.tell(3, 10, 2, false);
        x.press(1);
        x.page(false);
        return x;
    }

    /**
     * Pages: 0 with 8 panels and 20 balloons, at the stage 4, with room for a panel at 56, 0; 1 the same but read
     * leftward and printed; 2 with one panel and one balloon, not at the stage 4. There are 4 figures, 3 workers and
     * 10 tellings, and it is the week 8.
     */
    static Panelry busyHouse() {
        Panelry x = new Panelry();
        addFigures(x, 4);
        addBusyPages(x);
        x.workers(2);
        x.pass(4);
        addTellings(x, 5);
        x.press(1);
        x.pass(3);
        addSmallPage(x);
        x.workers(3);
        x.pass(1);
        addTellings(x, 5);
        return x;
    }

    /** A busy house in which nothing more has room: 8 pages, 12 figures, 40 tellings, and it is the week 200. */
    static Panelry fullHouse() {
        Panelry x = new Panelry();
        addFigures(x, 12);
        addBusyPages(x);
        x.workers(2);
        x.pass(50);
        addTellings(x, 20);
        x.pass(50);
        x.press(1);
        x.pass(50);
        x.pass(50);
        addTellings(x, 20);
        for (int page = 2; page < 8; page++) {
            addSmallPage(x);
        }
        return x;
    }

    private static void addFigures(Panelry x, int count) {
        for (int i = 0; i < count; i++) {
            x.figure();
        }
    }

    private static void addBusyPages(Panelry x) {
        for (int page = 0; page < 2; page++) {
            x.page(page == 1);
            for (int i = 0; i < 8; i++) {
                x.panel(page, i % 2 * 30, i / 2 * 20, 26, 18);
            }
            for (int i = 0; i < 8; i++) {
                x.draw(page, i, i % 4, i % 2 * 30 + i % 4 * 6, i / 2 * 20 + 11, 5, 1 + i % 4, i == 7);
            }
            for (int i = 0; i < 20; i++) {
                int panel = i % 8;
                x.balloon(page, panel, panel % 2 * 30 + i / 8 * 9, panel / 2 * 20 + 1, 8, 6, i % 5 - 1, 3 + i % 4);
            }
        }
    }

    private static void addSmallPage(Panelry x) {
        int page = x.page(false);
        x.panel(page, 0, 0, 26, 18);
        x.draw(page, 0, 2, 8, 2, 4, 3, false);
        x.balloon(page, 0, 12, 10, 8, 6, 2, 5);
    }

    /** None of them has the value 9. */
    private static void addTellings(Panelry x, int count) {
        for (int i = 0; i < count; i++) {
            x.tell(i % 3, i % 4 * 33, i % 7, i % 6 == 5);
        }
    }

    /** A page of the eight panels 0 to 7 in two columns and four rows. */
    static Panelry fullPage(boolean isLeftward) {
        Panelry x = new Panelry();
        x.page(isLeftward);
        for (int i = 0; i < 8; i++) {
            x.panel(0, i % 2 * 30, i / 2 * 20, 30, 20);
        }
        return x;
    }

    /** A page 0 of these panels, each given by x, y, width and height. */
    static Panelry pageOf(boolean isLeftward, int[]... panels) {
        Panelry x = new Panelry();
        x.page(isLeftward);
        for (int[] p : panels) {
            x.panel(0, p[0], p[1], p[2], p[3]);
        }
        return x;
    }

    /** The reading of a page as one text. */
    static String reading(Panelry x, int page, boolean isLeftward, int panels) {
        StringBuilder text = new StringBuilder();
        for (int at = 0; at < panels; at++) {
            text.append(x.read(page, isLeftward, at));
        }
        return text.toString();
    }
}
