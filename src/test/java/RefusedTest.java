import java.util.ArrayList;
import java.util.List;

/**
 * Every call that can be refused, with one or two of its arguments wrong, or none of them and the house not ready
 * for it: of the exceptions that apply it throws the one that is listed first, and behind it all answers are the same.
 */
public final class RefusedTest {
    interface House {
        Panelry make();
    }

    interface Call {
        void of(Panelry x, int[] a);
    }

    interface NotNow {
        boolean is(int[] a);
    }

    /** What an argument may be, what it may not, and which exception tells that. */
    private static final class Arg {
        final Class<?> kind;
        final int[] right;
        final int[] wrong;

        Arg(Class<?> kind, int[] right, int... wrong) {
            this.kind = kind;
            this.right = right;
            this.wrong = wrong;
        }
    }

    private static final int LEAST = Integer.MIN_VALUE;
    private static final int MOST = Integer.MAX_VALUE;
    private static final int WRONG_AT_ONCE = 2;
    private static final int CALLS_OF_ONE_OBJECT = 60;

    private static final NotNow NEVER = a -> false;
    private static final NotNow ALWAYS = a -> true;
    private static final NotNow PRINTED = a -> a[0] == 1;

    private final Due due = new Due("RefusedTest");
    private final String told;
    private final House house;
    private final int pages;
    private final int figures;
    private final boolean isFull;
    private final List<String> clean = new ArrayList<>();

    private RefusedTest(String told, House house, int pages, int figures, boolean isFull) {
        this.told = told;
        this.house = house;
        this.pages = pages;
        this.figures = figures;
        this.isFull = isFull;
        for (int part = 0; part < Answers.PARTS; part++) {
            clean.add(Answers.of(house.make(), part));
        }
    }

    public static void main(String[] args) {
        new RefusedTest("busy", Sample::busyHouse, 3, 4, false).run();
        new RefusedTest("full", Sample::fullHouse, 8, 12, true).run();
    }

    private void run() {
        pagesAndPanels();
        figuresAndBalloons();
        stories();
        work();
        due.end();
    }

    private static int[] right(int... values) {
        return values;
    }

    private static Arg index(int[] right, int least, int most) {
        return new Arg(Due.NO_SUCH, right, least - 1, most + 1, LEAST, MOST);
    }

    private static Arg range(int right, int least, int most) {
        return new Arg(Due.OUT_OF_RANGE, right(right), least - 1, most + 1, LEAST, MOST);
    }

    private static Arg flag() {
        return new Arg(null, right(0, 1));
    }

    private Arg page() {
        return index(right(0, 1, 2), 0, pages - 1);
    }

    private void pagesAndPanels() {
        NotNow onFullHouse = isFull ? ALWAYS : NEVER;
        refused("page", (x, a) -> x.page(a[0] == 1), onFullHouse, flag());
        Arg left = new Arg(Due.OUT_OF_RANGE, right(0, 56), -1, 57, 60, LEAST, MOST);
        Arg top = new Arg(Due.OUT_OF_RANGE, right(0), -1, 77, 80, LEAST, MOST);
        refused("panel", (x, a) -> x.panel(a[0], a[1], a[2], a[3], a[4]), a -> a[0] < 2 || a[1] == 0,
                page(), left, top, range(4, 4, 60), range(4, 4, 80));
        refused("a wide and high panel", (x, a) -> x.panel(a[0], a[1], a[2], 60, 80), ALWAYS,
                page(), range(0, 0, 0), range(0, 0, 0));
        refused("turn", (x, a) -> x.turn(a[0], a[1] == 1), PRINTED, page(), flag());
        refused("read", (x, a) -> x.read(a[0], a[1] == 1, a[2]), NEVER, page(), flag(), index(right(0), 0, 7));
        refused("doubts", (x, a) -> x.doubts(a[0]), NEVER, page());
        refused("orders", (x, a) -> x.orders(a[0], a[1] == 1), NEVER, page(), flag());
        refused("isOne", (x, a) -> x.isOne(a[0], a[1] == 1), NEVER, page(), flag());
        refused("mirror", (x, a) -> x.mirror(a[0]), onFullHouse, page());
    }

    private void figuresAndBalloons() {
        refused("figure", (x, a) -> x.figure(), isFull ? ALWAYS : NEVER);
        refused("draw", (x, a) -> x.draw(a[0], a[1], a[2], a[3], a[4], a[5], a[6], a[7] == 1), PRINTED,
                page(), index(right(0), 0, 7), index(right(0, figures - 1), 0, figures - 1),
                range(2, 0, 22), range(2, 0, 14), range(4, 2, 20), range(9, 0, 9), flag());
        refused("balloon", (x, a) -> x.balloon(a[0], a[1], a[2], a[3], a[4], a[5], a[6], a[7]), a -> a[0] < 2,
                page(), index(right(0), 0, 7), range(2, 0, 59), range(2, 0, 79), range(4, 2, 60), range(4, 2, 80),
                index(right(Panelry.NONE, 0, figures - 1), Panelry.NONE, figures - 1), range(9, 1, 200));
        refused("move", (x, a) -> x.move(a[0], a[1], a[2], a[3]), PRINTED,
                page(), index(right(0), 0, 19), range(40, 0, 59), range(40, 0, 79));
        refused("faults", (x, a) -> x.faults(a[0], a[1]), NEVER, page(), index(right(0), 0, 19));
    }

    private void stories() {
        Arg fact = index(right(0, 9), 0, 9);
        refused("tell", (x, a) -> x.tell(a[0], a[1], a[2], a[3] == 1), isFull ? ALWAYS : NEVER,
                fact, range(99, 0, 99), range(9, 0, 9), flag());
        refused("known", (x, a) -> x.known(a[0], a[1], a[2]), NEVER, fact, range(99, 0, 99), range(200, 0, 200));
        refused("contradictions", (x, a) -> x.contradictions(a[0]), NEVER, fact);
    }

    private void work() {
        refused("workers", (x, a) -> x.workers(a[0]), NEVER, range(1, 1, 5));
        refused("pass", (x, a) -> x.pass(a[0]), isFull ? ALWAYS : NEVER,
                new Arg(Due.OUT_OF_RANGE, right(1, 50), -1, 0, 51, LEAST, MOST));
        refused("stage", (x, a) -> x.stage(a[0]), NEVER, page());
        refused("press", (x, a) -> x.press(a[0]), a -> a[0] > 0, page());
        refused("printed", (x, a) -> x.printed(a[0], a[1]), NEVER, page(), range(0, 0, 10));
    }

    private void refused(String name, Call call, NotNow notNow, Arg... args) {
        List<int[]> refused = new ArrayList<>();
        List<Class<?>> dues = new ArrayList<>();
        lay(args, new int[args.length], 0, 0, null, notNow, refused, dues);
        for (int from = 0; from < refused.size(); from += CALLS_OF_ONE_OBJECT) {
            int to = Math.min(refused.size(), from + CALLS_OF_ONE_OBJECT);
            for (int part = 0; part < Answers.PARTS; part++) {
                Panelry x = house.make();
                for (int i = from; i < to; i++) {
                    int[] a = refused.get(i);
                    due.fails(told + ": " + name + java.util.Arrays.toString(a), dues.get(i), () -> call.of(x, a));
                }
                due.same(told + ": what " + name + " leaves", clean.get(part), Answers.of(x, part));
            }
        }
    }

    /** Lays all arguments from one on; the first exception listed of those behind them is the one that is due. */
    private static void lay(Arg[] args, int[] laid, int at, int wrongs, Class<?> due, NotNow notNow,
            List<int[]> refused, List<Class<?>> dues) {
        if (at == args.length) {
            if (due != null || notNow.is(laid)) {
                refused.add(laid.clone());
                dues.add(due == null ? Due.NOT_NOW : due);
            }
            return;
        }
        for (int value : args[at].right) {
            laid[at] = value;
            lay(args, laid, at + 1, wrongs, due, notNow, refused, dues);
        }
        if (wrongs < WRONG_AT_ONCE) {
            for (int value : args[at].wrong) {
                laid[at] = value;
                Class<?> first = due == Due.NO_SUCH ? due : args[at].kind;
                lay(args, laid, at + 1, wrongs + 1, first, notNow, refused, dues);
            }
        }
    }
}
