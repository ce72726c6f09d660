/**
 * What an object answers to some hundred calls, as one text: objects that stand alike answer alike. The calls come
 * in parts, each to be asked of an object of its own, for they change it, and none may be called more than 512 times.
 */
final class Answers {
    /** The pages 0 to 8, of which the last one is never there, the stories, and the house. */
    static final int PARTS = 11;

    private static final int STORIES = 9;
    private static final int[] TIMES = {0, 9, 10, 50, 99};
    private static final int[] WEEKS = {0, 100, 199, 200};

    private final Panelry x;
    private final StringBuilder text = new StringBuilder();

    private Answers(Panelry x) {
        this.x = x;
    }

    /** The object is of no use behind this. */
    static String of(Panelry x, int part) {
        Answers answers = new Answers(x);
        if (part < STORIES) {
            answers.addPage(part);
            answers.addCopy(part);
        } else if (part == STORIES) {
            answers.addStories();
        } else {
            answers.addHouse();
        }
        return answers.text.toString();
    }

    private void addPage(int page) {
        add("stage", () -> x.stage(page));
        for (int what = 0; what <= 10; what++) {
            int asked = what;
            add("printed", () -> x.printed(page, asked));
        }
        for (int way = 0; way < 2; way++) {
            boolean isLeftward = way == 1;
            for (int at = 0; at <= 8; at++) {
                int asked = at;
                add("read", () -> x.read(page, isLeftward, asked));
            }
            add("orders", () -> x.orders(page, isLeftward));
            add("isOne", () -> x.isOne(page, isLeftward) ? 1 : 0);
        }
        add("doubts", () -> x.doubts(page));
        for (int balloon = 0; balloon <= 20; balloon++) {
            int asked = balloon;
            add("faults", () -> x.faults(page, asked));
        }
        add("breaks", x::breaks);
    }

    /** What is held back on a printed page comes out on its copy. */
    private void addCopy(int page) {
        add("mirror", () -> x.mirror(page));
        int[] pages = {page, lastPage()};
        for (int p : pages) {
            add("turn", () -> x.turn(p, true) ? 1 : 0);
            add("turned, doubts", () -> x.doubts(p));
            add("turned, breaks", x::breaks);
            for (int balloon = 0; balloon < 4; balloon++) {
                int asked = balloon;
                add("turned, faults", () -> x.faults(p, asked));
            }
            addFaces(p);
            add("panel", () -> x.panel(p, 56, 76, 4, 4));
            add("balloon", () -> x.balloon(p, 0, 0, 0, 2, 2, Panelry.NONE, 1));
            add("press", () -> x.press(p));
            add("pressed", () -> x.printed(p, 0));
            add("letters", () -> x.printed(p, 2));
        }
    }

    private int lastPage() {
        for (int page = 8; page > 0; page--) {
            try {
                x.stage(page);
                return page;
            } catch (IndexOutOfBoundsException e) {
                continue;
            }
        }
        return 0;
    }

    /** Leads the balloon 0 over the page, and so over the faces in its panel. */
    private void addFaces(int page) {
        for (int step = 0; step < 24; step++) {
            int left = step % 6 * 4;
            int top = step / 6 * 7;
            add("move", () -> {
                x.move(page, 0, left, top);
                return x.faults(page, 0);
            });
        }
    }

    private void addStories() {
        for (int fact = 0; fact < 10; fact++) {
            int asked = fact;
            add("contradictions", () -> x.contradictions(asked));
            for (int time : TIMES) {
                for (int week : WEEKS) {
                    add("known", () -> x.known(asked, time, week));
                }
            }
        }
        add("tell", () -> x.tell(0, 0, 0, true));
        add("told", () -> x.known(0, 0, 200));
    }

    private void addHouse() {
        add("week", () -> x.pass(1));
        add("workers", () -> x.workers(1));
        for (int page = 0; page <= 8; page++) {
            int asked = page;
            add("stage", () -> x.stage(asked));
            for (int figure = 0; figure <= 12; figure++) {
                int drawn = figure;
                add("draw", () -> {
                    x.draw(asked, 0, drawn, 2, 2, 4, drawn % 5, false);
                    return x.breaks();
                });
            }
        }
        add("figure", x::figure);
        add("page", () -> x.page(false));
        add("tell", () -> x.tell(9, 9, 9, false));
    }

    private void add(String call, Due.Answer answer) {
        text.append(call).append(' ');
        try {
            text.append(answer.of());
        } catch (RuntimeException e) {
            text.append(e.getClass().getSimpleName());
        }
        text.append("; ");
    }
}
