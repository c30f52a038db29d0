/** Promises 21 to 23: cycle, cycleBySize, intercalates. */
public final class CyclesTest {
    public static void main(String[] args) {
        promise21();
        promise22();
        promise22MostCycles();
        promise23();
        Check.end();
    }

    private static LatinRectangles mixed() {
        // rows 0 and 1: columns 0, 1 and 2, 3, 4; rows 0 and 2: all five; rows 1 and 2: columns 0, 4 and 1, 2, 3
        return Texts.filled("rectangle 4 5;", "01234", "10342", "23401", "4.0..");
    }

    private static void promise21() {
        LatinRectangles x = mixed();
        int[] due = {2, 2, 3, 3, 3};
        for (int column = 0; column < 5; column++) {
            Check.same("cycle(0, 1, " + column + ")", x.cycle(0, 1, column), due[column]);
            Check.same("cycle(1, 0, " + column + ")", x.cycle(1, 0, column), due[column]);
        }
        Check.same("cycle(0, 2, 0)", x.cycle(0, 2, 0), 5);
        Check.throwsState("cycle(0, 3, 0)", () -> x.cycle(0, 3, 0));
        Check.throwsState("cycle(3, 0, 1)", () -> x.cycle(3, 0, 1));
        Check.throwsArgument("cycle(3, 3, 0)", () -> x.cycle(3, 3, 0));
        Check.throwsArgument("cycle(0, 0, 0)", () -> x.cycle(0, 0, 0));
        Check.throwsBounds("cycle(0, 0, 5)", () -> x.cycle(0, 0, 5));
        Check.throwsBounds("cycle(0, 0, -1)", () -> x.cycle(0, 0, -1));
        Check.throwsBounds("cycle(4, 4, 0)", () -> x.cycle(4, 4, 0));
        Check.throwsBounds("cycle(0, 4, 0)", () -> x.cycle(0, 4, 0));
        Check.throwsBounds("cycle(-1, 0, 0)", () -> x.cycle(-1, 0, 0));
        Check.throwsBounds("cycle(0, -1, 0)", () -> x.cycle(0, -1, 0));
        Check.throwsBounds("cycle(3, 0, 5)", () -> x.cycle(3, 0, 5));
    }

    private static void promise22() {
        LatinRectangles x = mixed();
        hasCycles(x, new int[][] {{2, 0, 1, 0}, {2, 1, 2, 0}, {3, 0, 1, 2}, {3, 1, 2, 1}, {5, 0, 2, 0}});
        Check.throwsArgument("cycleBySize(0, 4)", () -> x.cycleBySize(0, 4));
        Check.throwsArgument("cycleBySize(0, -1)", () -> x.cycleBySize(0, -1));
        Check.throwsArgument("cycleBySize(-1, 4)", () -> x.cycleBySize(-1, 4));
        hasCycles(new LatinRectangles(), new int[0][]);
        // the lowest column is the beginning, though the cycle of column 0 is the second by size
        hasCycles(Texts.filled("rectangle 2 5;", "01234", "14320"), new int[][] {{2, 0, 1, 2}, {3, 0, 1, 0}});
    }

    private static void promise22MostCycles() {
        LatinRectangles x = Texts.filled("rectangle 4 4;", "0123", "1032", "2301", "3210");
        hasCycles(x, new int[][] {
            {2, 0, 1, 0}, {2, 0, 1, 2}, {2, 0, 2, 0}, {2, 0, 2, 1}, {2, 0, 3, 0}, {2, 0, 3, 1},
            {2, 1, 2, 0}, {2, 1, 2, 1}, {2, 1, 3, 0}, {2, 1, 3, 1}, {2, 2, 3, 0}, {2, 2, 3, 2}});
        hasCycles(cyclic(), new int[][] {
            {5, 0, 1, 0}, {5, 0, 2, 0}, {5, 0, 3, 0}, {5, 0, 4, 0}, {5, 1, 2, 0},
            {5, 1, 3, 0}, {5, 1, 4, 0}, {5, 2, 3, 0}, {5, 2, 4, 0}, {5, 3, 4, 0}});
    }

    private static LatinRectangles cyclic() {
        return Texts.filled("rectangle 5 5;", "01234", "12340", "23401", "34012", "40123");
    }

    private static void hasCycles(LatinRectangles x, int[][] due) {
        for (int k = 0; k < due.length; k++) {
            for (int what = 0; what < 4; what++) {
                Check.same("cycleBySize(" + k + ", " + what + ")", x.cycleBySize(k, what), due[k][what]);
            }
        }
        for (int what = 0; what < 4; what++) {
            Check.same("cycleBySize behind the last", x.cycleBySize(due.length, what), -1);
            Check.same("cycleBySize(-1, " + what + ")", x.cycleBySize(-1, what), -1);
            Check.same("cycleBySize(MIN, " + what + ")", x.cycleBySize(Integer.MIN_VALUE, what), -1);
            Check.same("cycleBySize(MAX, " + what + ")", x.cycleBySize(Integer.MAX_VALUE, what), -1);
        }
    }

    private static void promise23() {
        Check.same("empty", new LatinRectangles().intercalates(), 0);
        Check.same("klein", Texts.filled("rectangle 4 4;", "0123", "1032", "2301", "3210").intercalates(), 12);
        Check.same("cyclic", Texts.filled("rectangle 4 4;", "0123", "1230", "2301", "3012").intercalates(), 4);
        Check.same("3 x 3", Texts.filled("rectangle 3 3;", "012", "120", "201").intercalates(), 0);
        Check.same("rows that are not full", Texts.filled("rectangle 3 4;", "0..3", "....", "3..0").intercalates(), 1);
        Check.same("a cell missing", Texts.filled("rectangle 3 4;", "0..3", "....", "3...").intercalates(), 0);
        Check.same("half of one", Texts.filled("rectangle 2 3;", "01.", "20.").intercalates(), 0);
        Check.same("the other half", Texts.filled("rectangle 2 3;", "01.", "12.").intercalates(), 0);
        Check.same("side 5", cyclic().intercalates(), 0);
        Check.same("mixed", mixed().intercalates(), 2);
    }
}
