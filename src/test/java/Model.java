import java.util.ArrayList;
import java.util.List;

/**
 * The document once more, in other ways than the program's: areas as fields of unit squares, cuts by trying
 * every line, orders by laying every one, tails by fractions. The tests hold the program against it.
 */
final class Model {
    static final class Rect {
        final int x;
        final int y;
        final int w;
        final int h;

        Rect(int x, int y, int w, int h) {
            this.x = x;
            this.y = y;
            this.w = w;
            this.h = h;
        }

        boolean hasSquare(int sx, int sy) {
            return x <= sx && sx < x + w && y <= sy && sy < y + h;
        }

        boolean sharesSquare(Rect o) {
            for (int sx = x; sx < x + w; sx++) {
                for (int sy = y; sy < y + h; sy++) {
                    if (o.hasSquare(sx, sy)) {
                        return true;
                    }
                }
            }
            return false;
        }

        boolean isWithin(Rect o) {
            return o.hasSquare(x, y) && o.hasSquare(x + w - 1, y + h - 1);
        }

        int[] middle() {
            return new int[] {x + Math.floorDiv(w, 2), y + Math.floorDiv(h, 2)};
        }

        Rect across() {
            return new Rect(60 - x - w, y, w, h);
        }
    }

    static final class Sheet {
        boolean leftward;
        int stage;
        final List<Rect> panels = new ArrayList<>();
        final List<Rect[]> faces = new ArrayList<>();
        final List<int[]> wears = new ArrayList<>();
        final List<boolean[]> changes = new ArrayList<>();
        final List<Rect> balloons = new ArrayList<>();
        /** Of each balloon: panel, figure, letters. */
        final List<int[]> told = new ArrayList<>();
        int printedWeek = -1;
        List<Integer> printedReading = new ArrayList<>();
    }

    final List<Sheet> sheets = new ArrayList<>();
    /** Of each telling: fact, time, value, 1 as a retcon, week. */
    final List<int[]> tellings = new ArrayList<>();
    int figures;
    int week;
    int workers = 1;
    private int doubtsFound;

    private static void range(int value, int least, int most) {
        if (value < least || value > most) {
            throw new IllegalArgumentException();
        }
    }

    private static void index(int value, int size) {
        if (value < 0 || value >= size) {
            throw new IndexOutOfBoundsException();
        }
    }

    private static void state(boolean isRight) {
        if (!isRight) {
            throw new IllegalStateException();
        }
    }

    private Sheet sheet(int page) {
        index(page, sheets.size());
        return sheets.get(page);
    }

    int page(boolean leftward) {
        state(sheets.size() < 8);
        Sheet s = new Sheet();
        s.leftward = leftward;
        sheets.add(s);
        return sheets.size() - 1;
    }

    int panel(int page, int x, int y, int w, int h) {
        Sheet s = sheet(page);
        range(x, 0, 59);
        range(y, 0, 79);
        range(w, 4, 60);
        range(h, 4, 80);
        range(x + w, 0, 60);
        range(y + h, 0, 80);
        Rect r = new Rect(x, y, w, h);
        for (Rect o : s.panels) {
            state(!r.sharesSquare(o));
        }
        state(s.panels.size() < 8 && s.printedWeek < 0);
        s.panels.add(r);
        s.faces.add(new Rect[12]);
        s.wears.add(new int[12]);
        s.changes.add(new boolean[12]);
        return s.panels.size() - 1;
    }

    int turn(int page, boolean leftward) {
        Sheet s = sheet(page);
        state(s.printedWeek < 0);
        boolean was = s.leftward;
        s.leftward = leftward;
        return was ? 1 : 0;
    }

    /** What a cut at a line parts: ahead, behind; null if a panel lies over the line or one side is empty. */
    private static List<List<Integer>> part(Sheet s, List<Integer> set, boolean across, int line) {
        List<Integer> ahead = new ArrayList<>();
        List<Integer> behind = new ArrayList<>();
        for (int p : set) {
            Rect r = s.panels.get(p);
            int from = across ? r.y : r.x;
            int to = across ? r.y + r.h : r.x + r.w;
            if (from < line && line < to) {
                return null;
            }
            (to <= line ? ahead : behind).add(p);
        }
        return ahead.isEmpty() || behind.isEmpty() ? null : List.of(ahead, behind);
    }

    private static int gutter(Sheet s, List<List<Integer>> parts, boolean across) {
        int end = 0;
        for (int p : parts.get(0)) {
            Rect r = s.panels.get(p);
            end = Math.max(end, across ? r.y + r.h : r.x + r.w);
        }
        int from = 1000;
        for (int p : parts.get(1)) {
            Rect r = s.panels.get(p);
            from = Math.min(from, across ? r.y : r.x);
        }
        return from - end;
    }

    private void read(Sheet s, List<Integer> set, boolean leftward, List<Integer> order) {
        if (set.size() < 2) {
            order.addAll(set);
            return;
        }
        List<List<Integer>> best = null;
        boolean isBestAcross = false;
        int widest = -1;
        int widestAcross = -1;
        int widestDown = -1;
        for (int line = 0; line <= 80; line++) {
            List<List<Integer>> parts = part(s, set, true, line);
            if (parts != null && gutter(s, parts, true) > widest) {
                best = parts;
                isBestAcross = true;
                widest = gutter(s, parts, true);
                widestAcross = widest;
            }
        }
        for (int step = 0; step <= 60; step++) {
            List<List<Integer>> parts = part(s, set, false, leftward ? 60 - step : step);
            if (parts != null) {
                widestDown = Math.max(widestDown, gutter(s, parts, false));
            }
            if (parts != null && gutter(s, parts, false) > widest) {
                best = parts;
                isBestAcross = false;
                widest = gutter(s, parts, false);
            }
        }
        if (best == null) {
            order.addAll(set);
            doubtsFound++;
            return;
        }
        if (widestAcross == widestDown) {
            doubtsFound++;
        }
        boolean isTurned = leftward && !isBestAcross;
        read(s, best.get(isTurned ? 1 : 0), leftward, order);
        read(s, best.get(isTurned ? 0 : 1), leftward, order);
    }

    List<Integer> reading(Sheet s, boolean leftward) {
        List<Integer> all = new ArrayList<>();
        for (int i = 0; i < s.panels.size(); i++) {
            all.add(i);
        }
        List<Integer> order = new ArrayList<>();
        doubtsFound = 0;
        read(s, all, leftward, order);
        return order;
    }

    int read(int page, boolean leftward, int at) {
        Sheet s = sheet(page);
        index(at, s.panels.size());
        return reading(s, leftward).get(at);
    }

    int doubts(int page) {
        Sheet s = sheet(page);
        reading(s, s.leftward);
        return doubtsFound;
    }

    private static boolean isAhead(Rect a, Rect b, boolean leftward) {
        if (b.y >= a.y + a.h) {
            return true;
        }
        boolean shares = false;
        for (int row = 0; row < 80; row++) {
            shares |= a.y <= row && row < a.y + a.h && b.y <= row && row < b.y + b.h;
        }
        return shares && (leftward ? b.across().x >= a.across().x + a.w : b.x >= a.x + a.w);
    }

    /** Lays the panels in every order, each behind all that it does not have to come ahead of. */
    private static int lay(Sheet s, List<Integer> laid, boolean leftward) {
        int count = laid.size() == s.panels.size() ? 1 : 0;
        for (int next = 0; next < s.panels.size(); next++) {
            boolean isRight = !laid.contains(next);
            for (int before : laid) {
                isRight = isRight && !isAhead(s.panels.get(next), s.panels.get(before), leftward);
            }
            if (isRight) {
                laid.add(next);
                count += lay(s, laid, leftward);
                laid.remove(laid.size() - 1);
            }
        }
        return count;
    }

    int orders(int page, boolean leftward) {
        return lay(sheet(page), new ArrayList<>(), leftward);
    }

    int isOne(int page, boolean leftward) {
        Sheet s = sheet(page);
        List<Integer> order = reading(s, leftward);
        for (int i = 0; i < order.size(); i++) {
            for (int j = i + 1; j < order.size(); j++) {
                if (isAhead(s.panels.get(order.get(j)), s.panels.get(order.get(i)), leftward)) {
                    return 0;
                }
            }
        }
        return 1;
    }

    int mirror(int page) {
        Sheet s = sheet(page);
        state(sheets.size() < 8);
        Sheet m = new Sheet();
        m.leftward = !s.leftward;
        for (int p = 0; p < s.panels.size(); p++) {
            m.panels.add(s.panels.get(p).across());
            Rect[] faces = new Rect[12];
            for (int f = 0; f < 12; f++) {
                faces[f] = s.faces.get(p)[f] == null ? null : s.faces.get(p)[f].across();
            }
            m.faces.add(faces);
            m.wears.add(s.wears.get(p).clone());
            m.changes.add(s.changes.get(p).clone());
        }
        for (int b = 0; b < s.balloons.size(); b++) {
            m.balloons.add(s.balloons.get(b).across());
            m.told.add(s.told.get(b));
        }
        sheets.add(m);
        return sheets.size() - 1;
    }

    int figure() {
        state(figures < 12);
        return figures++;
    }

    int draw(int page, int panel, int figure, int x, int y, int side, int wears, boolean changes) {
        Sheet s = sheet(page);
        index(panel, s.panels.size());
        index(figure, figures);
        range(side, 2, 20);
        range(wears, 0, 9);
        Rect in = s.panels.get(panel);
        range(x, in.x, in.x + in.w - side);
        range(y, in.y, in.y + in.h - side);
        state(s.printedWeek < 0);
        s.faces.get(panel)[figure] = new Rect(x, y, side, side);
        s.wears.get(panel)[figure] = wears;
        s.changes.get(panel)[figure] = changes;
        return 0;
    }

    int balloon(int page, int panel, int x, int y, int w, int h, int figure, int letters) {
        Sheet s = sheet(page);
        index(panel, s.panels.size());
        index(figure + 1, figures + 1);
        range(x, 0, 59);
        range(y, 0, 79);
        range(w, 2, 60);
        range(h, 2, 80);
        range(letters, 1, 200);
        state(s.balloons.size() < 20 && s.printedWeek < 0);
        s.balloons.add(new Rect(x, y, w, h));
        s.told.add(new int[] {panel, figure, letters});
        return s.balloons.size() - 1;
    }

    int move(int page, int balloon, int x, int y) {
        Sheet s = sheet(page);
        index(balloon, s.balloons.size());
        range(x, 0, 59);
        range(y, 0, 79);
        state(s.printedWeek < 0);
        Rect r = s.balloons.get(balloon);
        s.balloons.set(balloon, new Rect(x, y, r.w, r.h));
        return 0;
    }

    /** The middle of a balloon and its mouth: x, y, x, y; null without a tail. */
    private static int[] tail(Sheet s, int balloon) {
        int[] told = s.told.get(balloon);
        Rect face = told[1] < 0 ? null : s.faces.get(told[0])[told[1]];
        if (face == null) {
            return null;
        }
        int[] from = s.balloons.get(balloon).middle();
        int[] to = face.middle();
        return new int[] {from[0], from[1], to[0], to[1]};
    }

    private static long cross(long ax, long ay, long bx, long by) {
        return ax * by - ay * bx;
    }

    private static boolean isBetween(int a, int v, int b) {
        return a <= v && v <= b || b <= v && v <= a;
    }

    private static boolean isOn(int[] t, int x, int y) {
        return cross(t[2] - t[0], t[3] - t[1], x - t[0], y - t[1]) == 0
                && isBetween(t[0], x, t[2]) && isBetween(t[1], y, t[3]);
    }

    /** Whether two lines have a point in common: an end on the other, or by the fractions of a proper crossing. */
    private static boolean meets(int[] t, int[] u) {
        if (isOn(t, u[0], u[1]) || isOn(t, u[2], u[3]) || isOn(u, t[0], t[1]) || isOn(u, t[2], t[3])) {
            return true;
        }
        long below = cross(t[2] - t[0], t[3] - t[1], u[2] - u[0], u[3] - u[1]);
        if (below == 0) {
            return false;
        }
        long along = cross(u[0] - t[0], u[1] - t[1], u[2] - u[0], u[3] - u[1]);
        long itsAlong = cross(u[0] - t[0], u[1] - t[1], t[2] - t[0], t[3] - t[1]);
        long sign = below < 0 ? -1 : 1;
        return along * sign >= 0 && along * sign <= below * sign
                && itsAlong * sign >= 0 && itsAlong * sign <= below * sign;
    }

    /** Of two tails to one mouth: whether the one's balloon is on the other tail, elsewhere than at the mouth. */
    private static boolean shares(int[] t, int[] u) {
        boolean isFromMouth = t[0] == t[2] && t[1] == t[3];
        boolean isFromMouthToo = u[0] == u[2] && u[1] == u[3];
        return !isFromMouth && isOn(u, t[0], t[1]) || !isFromMouthToo && isOn(t, u[0], u[1]);
    }

    private static boolean meets(int[] t, Rect r) {
        int right = r.x + r.w;
        int low = r.y + r.h;
        return isBetween(r.x, t[0], right) && isBetween(r.y, t[1], low)
                || meets(t, new int[] {r.x, r.y, right, r.y}) || meets(t, new int[] {r.x, low, right, low})
                || meets(t, new int[] {r.x, r.y, r.x, low}) || meets(t, new int[] {right, r.y, right, low});
    }

    int faults(int page, int balloon) {
        Sheet s = sheet(page);
        index(balloon, s.balloons.size());
        Rect r = s.balloons.get(balloon);
        int[] told = s.told.get(balloon);
        int[] tail = tail(s, balloon);
        int set = r.isWithin(s.panels.get(told[0])) ? 0 : 1;
        for (int o = 0; o < s.balloons.size(); o++) {
            Rect q = s.balloons.get(o);
            if (o != balloon && s.told.get(o)[0] == told[0]) {
                int[] its = tail(s, o);
                boolean isOfOne = s.told.get(o)[1] == told[1];
                boolean isTailHit = tail != null && (meets(tail, q)
                        || its != null && (isOfOne ? shares(tail, its) : meets(tail, its)));
                set |= (r.sharesSquare(q) ? 2 : 0) | (isTailHit ? 16 : 0);
                boolean isMoreAhead = s.leftward ? r.x + r.w > q.x + q.w : r.x < q.x;
                set |= o < balloon && (r.y < q.y || r.y == q.y && isMoreAhead) ? 64 : 0;
            }
        }
        for (Rect face : s.faces.get(told[0])) {
            set |= face != null && face.sharesSquare(r) ? 4 : 0;
        }
        set |= told[1] >= 0 && tail == null ? 8 : 0;
        set |= told[2] * 4 > Math.floorDiv(r.w * r.h, 2) ? 32 : 0;
        return set;
    }

    int breaks() {
        int count = 0;
        for (int f = 0; f < 12; f++) {
            int last = -1;
            for (Sheet s : sheets) {
                for (int p : reading(s, s.leftward)) {
                    if (s.faces.get(p)[f] != null) {
                        int now = s.wears.get(p)[f];
                        count += last >= 0 && last != now && !s.changes.get(p)[f] ? 1 : 0;
                        last = now;
                    }
                }
            }
        }
        return count;
    }

    int tell(int fact, int time, int value, boolean isRetcon) {
        index(fact, 10);
        range(time, 0, 99);
        range(value, 0, 9);
        state(tellings.size() < 40);
        tellings.add(new int[] {fact, time, value, isRetcon ? 1 : 0, week});
        return tellings.size() - 1;
    }

    int known(int fact, int time, int week) {
        index(fact, 10);
        range(time, 0, 99);
        range(week, 0, 200);
        for (int t = time; t >= 0; t--) {
            int last = -1;
            int lastRetcon = -1;
            for (int[] told : tellings) {
                if (told[0] == fact && told[1] == t && told[4] <= week) {
                    last = told[2];
                    lastRetcon = told[3] == 1 ? told[2] : lastRetcon;
                }
            }
            if (last >= 0) {
                return lastRetcon >= 0 ? lastRetcon : last;
            }
        }
        return -1;
    }

    int contradictions(int fact) {
        index(fact, 10);
        int count = 0;
        for (int i = 0; i < tellings.size(); i++) {
            for (int j = i + 1; j < tellings.size(); j++) {
                int[] a = tellings.get(i);
                int[] b = tellings.get(j);
                count += a[0] == fact && b[0] == fact && a[1] == b[1] && a[2] != b[2] && b[3] == 0 ? 1 : 0;
            }
        }
        return count;
    }

    int workers(int told) {
        range(told, 1, 5);
        int before = workers;
        workers = told;
        return before;
    }

    int pass(int weeks) {
        range(weeks, 1, 50);
        state(week + weeks <= 200);
        for (int i = 0; i < weeks; i++) {
            List<Sheet> worked = new ArrayList<>();
            for (int worker = 0; worker < workers; worker++) {
                Sheet next = null;
                for (Sheet s : sheets) {
                    next = next == null && s.stage < 4 && !worked.contains(s) ? s : next;
                }
                if (next != null) {
                    next.stage++;
                    worked.add(next);
                }
            }
            week++;
        }
        return week;
    }

    int stage(int page) {
        return sheet(page).stage;
    }

    int press(int page) {
        Sheet s = sheet(page);
        state(s.stage == 4 && s.printedWeek < 0);
        s.printedWeek = week;
        s.printedReading = reading(s, s.leftward);
        return s.panels.size();
    }

    int printed(int page, int what) {
        Sheet s = sheet(page);
        range(what, 0, 10);
        int letters = 0;
        for (int[] told : s.told) {
            letters += told[2];
        }
        if (s.printedWeek < 0 || what >= 3 && what - 3 >= s.printedReading.size()) {
            return -1;
        }
        return what == 0 ? s.printedWeek : what == 1 ? s.panels.size() : what == 2 ? letters
                : s.printedReading.get(what - 3);
    }
}
