/** Runs of calls, always the same ones, on the program and on the model, whose answers have to be alike. */
public final class ModelTest {
    private static final int RUNS = 500;
    /** The document promises nothing behind the call 512. */
    private static final int CALLS = 512;
    private static final int THROWS = -1000;

    private long seed;
    private Panelry x;
    private Model model;
    private final StringBuilder trail = new StringBuilder();

    private ModelTest(long seed) {
        this.seed = seed;
    }

    public static void main(String[] args) {
        Due due = new Due("ModelTest");
        int runs = args.length == 0 ? RUNS : Integer.parseInt(args[0]);
        for (int run = 0; run < runs; run++) {
            ModelTest test = new ModelTest(run * 7919L + 1);
            int told = run;
            due.same("run " + told, "", test.firstDifference(run % 4));
        }
        due.end();
    }

    /** A number from least to most, by a fixed rule. */
    private int any(int least, int most) {
        seed = seed * 6364136223846793005L + 1442695040888963407L;
        return least + (int) ((seed >>> 33) % (most - least + 1));
    }

    /** A number from 0 to most, seldom one just beyond, and very seldom a far one. */
    private int near(int most) {
        int chance = any(0, 199);
        if (chance == 0) {
            int[] far = {Integer.MAX_VALUE, Integer.MIN_VALUE, 1000, -1000};
            return far[any(0, 3)];
        }
        return chance < 3 ? any(-2, -1) : chance < 5 ? most + any(1, 2) : any(0, most);
    }

    private String firstDifference(int kind) {
        x = new Panelry();
        model = new Model();
        for (int call = 0; call < CALLS; call++) {
            int what = call < (kind == 1 ? 1 : 5) ? 0 : choose(kind);
            int[] a = arguments(what);
            int due = answer(what, a, true);
            int got = answer(what, a, false);
            trail.append(what).append(java.util.Arrays.toString(a)).append('=').append(due).append(' ');
            if (due != got) {
                return trail + " but " + got;
            }
        }
        return "";
    }

    /** Which method: each kind of run has its weights. */
    private int choose(int kind) {
        int[][] kinds = {
            {1, 9, 1, 4, 3, 3, 3, 1, 0, 0, 0, 0, 0, 0, 0, 0, 0, 1, 1, 1, 1, 1},
            {0, 5, 3, 0, 0, 0, 0, 1, 6, 30, 40, 50, 99, 3, 0, 0, 0, 0, 0, 0, 0, 0},
            {1, 5, 3, 1, 1, 0, 0, 1, 2, 20, 1, 1, 1, 12, 0, 0, 0, 0, 0, 0, 0, 0},
            {1, 2, 1, 1, 1, 1, 1, 1, 1, 2, 2, 2, 2, 2, 5, 9, 4, 1, 2, 4, 2, 9},
        };
        int sum = 0;
        for (int weight : kinds[kind]) {
            sum += weight;
        }
        int at = any(0, sum - 1);
        int what = 0;
        while (at >= kinds[kind][what]) {
            at -= kinds[kind][what];
            what++;
        }
        return what;
    }

    private int[] arguments(int what) {
        int flag = any(0, 1);
        int page = near(Math.max(0, model.sheets.size() - 1));
        Model.Sheet sheet = page >= 0 && page < model.sheets.size() ? model.sheets.get(page) : new Model.Sheet();
        int panel = near(Math.max(0, sheet.panels.size() - 1));
        int figure = near(Math.max(0, model.figures - 1));
        int balloon = near(Math.max(0, sheet.balloons.size() - 1));
        Model.Rect in = panel >= 0 && panel < sheet.panels.size() ? sheet.panels.get(panel) : new Model.Rect(0, 0, 60, 80);
        int x = in.x + near(Math.max(0, in.w - 5));
        int y = in.y + near(Math.max(0, in.h - 5));
        switch (what) {
            case 0:
                return new int[] {flag};
            case 1:
                int step = any(0, 2) == 0 ? 1 : any(0, 1) == 0 ? 4 : 10;
                return new int[] {page, near(59) / step * step, near(79) / step * step,
                    any(0, 9) == 0 ? near(60) : any(1, 4) * 5, any(0, 9) == 0 ? near(80) : any(1, 4) * 5};
            case 2:
            case 5:
            case 6:
                return new int[] {page, flag};
            case 3:
                return new int[] {page, flag, near(Math.max(0, sheet.panels.size() - 1))};
            case 9:
                return new int[] {page, panel, figure, x, y, any(0, 9) == 0 ? near(20) : any(2, 5), near(9), flag};
            case 10:
                int speaker = any(0, 5) == 0 ? -1 : figure;
                return new int[] {page, panel, x, y, any(0, 19) == 0 ? near(60) : any(2, 7),
                    any(0, 19) == 0 ? near(80) : any(2, 7), speaker, any(0, 9) == 0 ? near(200) : any(1, 5)};
            case 11:
                return new int[] {page, balloon, any(0, 9) == 0 ? near(59) : x, any(0, 9) == 0 ? near(79) : y};
            case 12:
                return new int[] {page, balloon};
            case 14:
                return new int[] {near(9) / 4, near(99) / 30, near(9) / 3, flag};
            case 15:
                return new int[] {near(9) / 4, near(99) / 20, any(0, 3) == 0 ? near(200) : near(model.week)};
            case 16:
                return new int[] {near(9) / 4};
            case 17:
                return new int[] {near(5)};
            case 18:
                return new int[] {any(0, 9) == 0 ? near(50) : near(3)};
            case 21:
                return new int[] {page, near(10)};
            default:
                return new int[] {page};
        }
    }

    private int answer(int what, int[] a, boolean isModel) {
        try {
            return what < 9 ? ofPages(what, a, isModel) : what < 14 ? ofBalloons(what, a, isModel) : ofWork(what, a, isModel);
        } catch (RuntimeException e) {
            Class<?> kind = e.getClass();
            return kind == Due.NO_SUCH ? THROWS : kind == Due.OUT_OF_RANGE ? THROWS + 1
                    : kind == Due.NOT_NOW ? THROWS + 2 : THROWS + (isModel ? 3 : 4);
        }
    }

    private int ofPages(int what, int[] a, boolean isModel) {
        boolean flag = a.length > 1 && a[1] == 1;
        switch (what) {
            case 0:
                return isModel ? model.page(a[0] == 1) : x.page(a[0] == 1);
            case 1:
                return isModel ? model.panel(a[0], a[1], a[2], a[3], a[4]) : x.panel(a[0], a[1], a[2], a[3], a[4]);
            case 2:
                return isModel ? model.turn(a[0], flag) : x.turn(a[0], flag) ? 1 : 0;
            case 3:
                return isModel ? model.read(a[0], flag, a[2]) : x.read(a[0], flag, a[2]);
            case 4:
                return isModel ? model.doubts(a[0]) : x.doubts(a[0]);
            case 5:
                return isModel ? model.orders(a[0], flag) : x.orders(a[0], flag);
            case 6:
                return isModel ? model.isOne(a[0], flag) : x.isOne(a[0], flag) ? 1 : 0;
            case 7:
                return isModel ? model.mirror(a[0]) : x.mirror(a[0]);
            default:
                return isModel ? model.figure() : x.figure();
        }
    }

    private int ofBalloons(int what, int[] a, boolean isModel) {
        switch (what) {
            case 9:
                if (isModel) {
                    return model.draw(a[0], a[1], a[2], a[3], a[4], a[5], a[6], a[7] == 1);
                }
                x.draw(a[0], a[1], a[2], a[3], a[4], a[5], a[6], a[7] == 1);
                return 0;
            case 10:
                return isModel ? model.balloon(a[0], a[1], a[2], a[3], a[4], a[5], a[6], a[7])
                        : x.balloon(a[0], a[1], a[2], a[3], a[4], a[5], a[6], a[7]);
            case 11:
                if (isModel) {
                    return model.move(a[0], a[1], a[2], a[3]);
                }
                x.move(a[0], a[1], a[2], a[3]);
                return 0;
            case 12:
                return isModel ? model.faults(a[0], a[1]) : x.faults(a[0], a[1]);
            default:
                return isModel ? model.breaks() : x.breaks();
        }
    }

    private int ofWork(int what, int[] a, boolean isModel) {
        switch (what) {
            case 14:
                return isModel ? model.tell(a[0], a[1], a[2], a[3] == 1) : x.tell(a[0], a[1], a[2], a[3] == 1);
            case 15:
                return isModel ? model.known(a[0], a[1], a[2]) : x.known(a[0], a[1], a[2]);
            case 16:
                return isModel ? model.contradictions(a[0]) : x.contradictions(a[0]);
            case 17:
                return isModel ? model.workers(a[0]) : x.workers(a[0]);
            case 18:
                return isModel ? model.pass(a[0]) : x.pass(a[0]);
            case 19:
                return isModel ? model.stage(a[0]) : x.stage(a[0]);
            case 20:
                return isModel ? model.press(a[0]) : x.press(a[0]);
            default:
                return isModel ? model.printed(a[0], a[1]) : x.printed(a[0], a[1]);
        }
    }
}
