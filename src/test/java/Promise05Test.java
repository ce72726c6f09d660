/** Promise 5: read answers the panels of a reading, cut by the widest gutters. */
public final class Promise05Test {
    public static void main(String[] args) {
        Due due = new Due("Promise05Test");
        readings(due);
        places(due);
        withoutCut(due);
        due.fails("a place in a page without panels", Due.NO_SUCH, () -> Sample.house().read(2, false, 0));
        due.refuses("the place behind the last one", Due.NO_SUCH, x -> x.read(0, false, 3));
        due.refuses("the place -1", Due.NO_SUCH, x -> x.read(0, true, -1));
        due.refuses("the page -1", Due.NO_SUCH, x -> x.read(-1, false, 0));
        due.refuses("the page 3", Due.NO_SUCH, x -> x.read(3, false, 0));
        due.fails("the greatest place", Due.NO_SUCH, () -> Sample.house().read(0, false, Integer.MAX_VALUE));
        due.is("a printed page is read", 1, () -> Sample.house().read(1, true, 0));
        due.end();
    }

    /** A page of each number of panels has just so many places, in either direction. */
    private static void places(Due due) {
        for (int count = 0; count <= 8; count++) {
            Panelry x = new Panelry();
            x.page(false);
            for (int i = 0; i < count; i++) {
                x.panel(0, i % 2 * 30, i / 2 * 20, 28, 18);
            }
            for (int way = 0; way < 2; way++) {
                boolean isLeftward = way == 1;
                int behind = count;
                String told = count + " panels" + (isLeftward ? ", leftward" : ", rightward");
                boolean isAlone = isLeftward && count % 2 == 1;
                int last = isLeftward && !isAlone ? count - 2 : count - 1;
                if (count > 0) {
                    due.is(told + ", the last place", last, () -> x.read(0, isLeftward, behind - 1));
                    due.is(told + ", the first place", isLeftward && behind > 1 ? 1 : 0, () -> x.read(0, isLeftward, 0));
                }
                due.fails(told + ", the place behind the last one", Due.NO_SUCH, () -> x.read(0, isLeftward, behind));
                due.fails(told + ", the place ahead of the first one", Due.NO_SUCH, () -> x.read(0, isLeftward, -1));
            }
        }
    }

    /** Panels around a middle, alone and as a part of a page. */
    private static void withoutCut(Due due) {
        reads(due, "four panels around nothing", "0123", "0123",
                at(10, 20, 20, 10), at(0, 10, 10, 20), at(20, 0, 10, 20), at(0, 0, 20, 10));
        reads(due, "a part without a cut, to the left of another one", "12345607", "67012345",
                at(40, 20, 8, 10), at(10, 20, 20, 10), at(0, 10, 10, 20), at(10, 10, 10, 10), at(20, 0, 10, 20),
                at(0, 0, 20, 10), at(40, 0, 20, 18), at(50, 20, 8, 10));
        reads(due, "a part without a cut, below another one", "50123467", "50123476",
                at(10, 40, 20, 10), at(0, 30, 10, 20), at(20, 20, 10, 20), at(10, 30, 10, 10), at(0, 20, 20, 10),
                at(0, 0, 60, 10), at(0, 60, 20, 10), at(30, 60, 20, 10));
    }

    /** Reads a page of these panels, which is itself of the other direction. */
    private static void reads(Due due, String told, String rightward, String leftward, int[]... panels) {
        for (int way = 0; way < 2; way++) {
            boolean isLeftward = way == 1;
            Panelry x = Sample.pageOf(!isLeftward, panels);
            due.same(told + (isLeftward ? ", leftward" : ", rightward"), isLeftward ? leftward : rightward,
                    Sample.reading(x, 0, isLeftward, panels.length));
        }
    }

    private static int[] at(int x, int y, int width, int height) {
        return new int[] {x, y, width, height};
    }

    private static void readings(Due due) {
        reads(due, "one panel", "0", "0", at(10, 10, 10, 10));
        reads(due, "one above the other", "10", "10", at(0, 20, 10, 10), at(20, 0, 10, 10));
        reads(due, "one beside the other", "10", "01", at(20, 0, 10, 10), at(0, 5, 10, 10));
        reads(due, "the cut downward has the wider gutter", "0213", "1302",
                at(0, 0, 20, 20), at(24, 0, 20, 20), at(0, 22, 20, 20), at(24, 22, 20, 20));
        reads(due, "the cut across has the wider gutter", "0123", "1032",
                at(0, 0, 20, 20), at(22, 0, 20, 20), at(0, 24, 20, 20), at(22, 24, 20, 20));
        reads(due, "of like gutters the cut across", "0123", "1032",
                at(0, 0, 20, 20), at(22, 0, 20, 20), at(0, 22, 20, 20), at(22, 22, 20, 20));
        reads(due, "gutters of 0, a cut across among them", "0123", "1032",
                at(0, 0, 20, 20), at(20, 0, 20, 20), at(0, 20, 20, 20), at(20, 20, 20, 20));
        reads(due, "no cut", "01234", "01234",
                at(0, 0, 40, 20), at(40, 0, 20, 60), at(20, 60, 40, 20), at(0, 20, 20, 60), at(20, 20, 20, 40));
        reads(due, "no cut, other numbers", "01234", "01234",
                at(20, 20, 20, 40), at(0, 20, 20, 60), at(20, 60, 40, 20), at(40, 0, 20, 60), at(0, 0, 40, 20));
        reads(due, "the widest gutter is not the first one", "0213", "1302",
                at(0, 0, 10, 30), at(40, 0, 10, 30), at(12, 33, 10, 30), at(45, 34, 10, 30));
        reads(due, "a cut inside a part", "102", "210",
                at(0, 30, 20, 20), at(0, 0, 20, 20), at(40, 0, 20, 80));
        reads(due, "a gutter is measured at the nearest panels", "0123", "2301",
                at(0, 0, 20, 30), at(0, 33, 22, 40), at(25, 0, 20, 31), at(25, 36, 20, 30));
        tiedCutsDownward(due);
        tiedCutsAcross(due);
        deepCuts(due);
    }

    /** Two cuts downward with like gutters: by which one is first, a wider cut across comes up or does not. */
    private static void tiedCutsDownward(Due due) {
        reads(due, "three columns", "012", "210", at(0, 0, 18, 60), at(20, 0, 18, 60), at(40, 0, 18, 60));
        reads(due, "a cut across behind the cut at the least x", "01234", "24130",
                at(0, 0, 18, 40), at(20, 0, 18, 30), at(40, 0, 18, 30), at(20, 34, 18, 30), at(40, 34, 18, 30));
        reads(due, "a cut across behind the cut at the greatest x", "02134", "41032",
                at(0, 0, 18, 30), at(20, 0, 18, 30), at(0, 34, 18, 30), at(20, 34, 18, 30), at(40, 0, 18, 40));
    }

    /** Cuts that part one panel each from all the others, at either end. */
    private static void deepCuts(Due due) {
        int[][] likeGutters = new int[8][];
        int[][] rowOfRisingGutters = new int[8][];
        int[][] rowOfFallingGutters = new int[8][];
        int[][] columnOfRisingGutters = new int[8][];
        int[][] columnOfFallingGutters = new int[8][];
        int[][] aslant = new int[8][];
        for (int i = 0; i < 8; i++) {
            likeGutters[7 - i] = at(i * 7, 10, 5, 20);
            int rising = i * 4 + i * (i - 1) / 2;
            rowOfRisingGutters[7 - i] = at(rising, 10, 4, 20);
            rowOfFallingGutters[i] = at(56 - rising, 10, 4, 20);
            columnOfRisingGutters[7 - i] = at(10, rising, 20, 4);
            columnOfFallingGutters[i] = at(10, 76 - rising, 20, 4);
            aslant[7 - i] = at(i * 7, i * 7, 4, 4);
        }
        reads(due, "a row of like gutters", "76543210", "01234567", likeGutters);
        reads(due, "a row of rising gutters", "76543210", "01234567", rowOfRisingGutters);
        reads(due, "a row of falling gutters", "76543210", "01234567", rowOfFallingGutters);
        reads(due, "a column of rising gutters", "76543210", "76543210", columnOfRisingGutters);
        reads(due, "aslant, with a doubt in each set", "76543210", "76543210", aslant);
        reads(due, "a column of falling gutters", "76543210", "76543210", columnOfFallingGutters);
    }

    private static void tiedCutsAcross(Due due) {
        reads(due, "three rows", "012", "012", at(0, 0, 60, 10), at(0, 12, 60, 10), at(0, 24, 60, 10));
        reads(due, "a cut downward behind the cut at the least y", "01234", "03412",
                at(10, 0, 40, 10), at(0, 12, 20, 10), at(0, 24, 20, 10), at(24, 12, 20, 10), at(24, 24, 20, 10));
    }
}
