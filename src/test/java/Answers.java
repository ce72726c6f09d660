/** What an object answers to some 350 calls, as one text: objects that stand alike answer alike. */
final class Answers {
    private final StringBuilder text = new StringBuilder();

    private Answers() {
    }

    /** Ends with calls that change the object, so it is of no use behind this one. */
    static String of(Panelry x) {
        Answers answers = new Answers();
        for (int page = 0; page < 4; page++) {
            answers.addPage(x, page);
        }
        answers.add("breaks", x::breaks);
        for (int f = 0; f < 10; f++) {
            int fact = f;
            answers.add("contradictions", () -> x.contradictions(fact));
            for (int time = 0; time < 100; time += 33) {
                int asked = time;
                answers.add("known", () -> x.known(fact, asked, 0));
                answers.add("known", () -> x.known(fact, asked, 200));
            }
        }
        answers.add("workers", () -> x.workers(1));
        answers.add("figure", x::figure);
        answers.add("tell", () -> x.tell(0, 0, 0, false));
        answers.add("page", () -> x.page(false));
        answers.add("pass", () -> x.pass(1));
        answers.add("stage", () -> x.stage(3));
        return answers.text.toString();
    }

    private void addPage(Panelry x, int page) {
        for (int what = 0; what <= 10; what++) {
            int asked = what;
            add("printed", () -> x.printed(page, asked));
        }
        for (int way = 0; way < 2; way++) {
            boolean isLeftward = way == 1;
            for (int at = 0; at < 8; at++) {
                int asked = at;
                add("read", () -> x.read(page, isLeftward, asked));
            }
            add("orders", () -> x.orders(page, isLeftward));
            add("isOne", () -> x.isOne(page, isLeftward) ? 1 : 0);
        }
        for (int balloon = 0; balloon < 8; balloon++) {
            int asked = balloon;
            add("faults", () -> x.faults(page, asked));
        }
        add("doubts", () -> x.doubts(page));
        add("stage", () -> x.stage(page));
        add("panel", () -> x.panel(page, 56, 76, 4, 4));
        add("turn", () -> x.turn(page, true) ? 1 : 0);
    }

    private void add(String call, Due.Answer answer) {
        text.append(call).append(' ');
        try {
            text.append(answer.of());
        } catch (RuntimeException e) {
            text.append(e.getClass().getSimpleName());
        }
        text.append("; ");
    }
}
