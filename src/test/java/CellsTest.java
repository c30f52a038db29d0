/** Promises 6 to 13: symbol, isGiven, candidates, forcedCells, forced, emptyCell, uses, symbolByUse. */
public final class CellsTest {
    public static void main(String[] args) {
        promise6();
        promise7();
        promise8();
        promises9And10();
        promise10Reasons();
        promise10LowestSymbol();
        promise11();
        promise12();
        promise13();
        Check.end();
    }

    private static void promise6() {
        LatinRectangles x = Texts.filled("rectangle 2 3;given 0 2 1;", "..1", "0..");
        Texts.hasRow("filled", x, 0, "..1");
        Texts.hasRow("filled", x, 1, "0..");
        Check.throwsBounds("symbol(2, 0)", () -> x.symbol(2, 0));
        Check.throwsBounds("symbol(0, 3)", () -> x.symbol(0, 3));
        Check.throwsBounds("symbol(-1, 0)", () -> x.symbol(-1, 0));
        Check.throwsBounds("symbol(0, -1)", () -> x.symbol(0, -1));
        Check.throwsBounds("symbol(MAX, MIN)", () -> x.symbol(Integer.MAX_VALUE, Integer.MIN_VALUE));
    }

    private static void promise7() {
        LatinRectangles x = Texts.filled("rectangle 2 3;given 0 2 1;", "..1", "0..");
        Check.isTrue("a given cell", x.isGiven(0, 2));
        Check.isFalse("a filled cell", x.isGiven(1, 0));
        Check.isFalse("an empty cell", x.isGiven(0, 0));
        Check.throwsBounds("isGiven(2, 0)", () -> x.isGiven(2, 0) ? 1 : 0);
        Check.throwsBounds("isGiven(0, 3)", () -> x.isGiven(0, 3) ? 1 : 0);
        Check.throwsBounds("isGiven(-1, 0)", () -> x.isGiven(-1, 0) ? 1 : 0);
        Check.throwsBounds("isGiven(0, -1)", () -> x.isGiven(0, -1) ? 1 : 0);
    }

    private static void promise8() {
        LatinRectangles x = Texts.filled("rectangle 3 4;given 0 0 0;ban 1 1 3;ban 0 0 2;", "0...", "..1.");
        Check.same("a filled cell", x.candidates(0, 0), 0);
        Check.same("its row", x.candidates(0, 1), 14);
        Check.same("row and column", x.candidates(0, 2), 12);
        Check.same("row, column and given", x.candidates(1, 0), 12);
        Check.same("row and ban", x.candidates(1, 1), 5);
        Check.same("neither", x.candidates(2, 3), 15);
        x.empty(1, 2);
        Check.same("emptied", x.candidates(1, 2), 15);
        Check.throwsBounds("candidates(3, 0)", () -> x.candidates(3, 0));
        Check.throwsBounds("candidates(0, 4)", () -> x.candidates(0, 4));
        Check.throwsBounds("candidates(-1, 0)", () -> x.candidates(-1, 0));
        Check.throwsBounds("candidates(0, -1)", () -> x.candidates(0, -1));
    }

    private static void promises9And10() {
        LatinRectangles x = Texts.filled("rectangle 3 3;", "01.");
        // (0, 2) by reason 1; nothing else: each other cell has two candidates
        Check.same("forcedCells", x.forcedCells(), 1);
        isForced(x, 0, 0, 2, 2, 1);
        Check.same("forced(1, 0)", x.forced(1, 0), -1);
        x.fill(1, 0, 1);
        // (0,2)=2; (1,1) has 0,2; (1,2) has 0 or 2; (2,0)=2 only; (2,1) has 0,2; (2,2) has 0,1,2
        Check.same("forcedCells", x.forcedCells(), 3);
        isForced(x, 0, 0, 2, 2, 1);
        isForced(x, 1, 2, 0, 2, 1);
        isForced(x, 2, 2, 2, 1, 2);
        Check.same("forced(3, 0)", x.forced(3, 0), -1);
        Check.same("forced(-1, 3)", x.forced(-1, 3), -1);
        Check.same("forced(MIN, 3)", x.forced(Integer.MIN_VALUE, 3), -1);
        Check.same("forced(MAX, 3)", x.forced(Integer.MAX_VALUE, 3), -1);
        Check.throwsArgument("forced(0, 4)", () -> x.forced(0, 4));
        Check.throwsArgument("forced(0, -1)", () -> x.forced(0, -1));
        Check.throwsArgument("forced(-1, 4)", () -> x.forced(-1, 4));
        Check.throwsArgument("forced(9, 4)", () -> x.forced(9, 4));
        Check.same("no forced cell", new LatinRectangles().forcedCells(), 0);
    }

    private static void promise10Reasons() {
        // symbol 2 has only cell (0, 0) in row 0, and that cell has all candidates
        LatinRectangles x = Texts.of("rectangle 2 3;ban 0 1 2;ban 0 2 2;");
        Check.same("reason 2", x.forcedCells(), 1);
        isForced(x, 0, 0, 0, 2, 2);
        // symbol 2 has only cell (0, 0) in column 0: that forces in a square alone
        LatinRectangles wide = Texts.of("rectangle 2 3;ban 1 0 2;");
        Check.same("no reason 3 in a rectangle", wide.forcedCells(), 0);
        LatinRectangles square = Texts.of("rectangle 3 3;ban 1 0 2;ban 2 0 2;");
        Check.same("reason 3 in a square", square.forcedCells(), 1);
        isForced(square, 0, 0, 0, 2, 3);
        // reason 1 goes ahead of 2, 2 ahead of 3
        LatinRectangles all = Texts.of("rectangle 3 3;ban 0 0 0;ban 0 0 1;ban 0 1 2;ban 0 2 2;ban 1 0 2;ban 2 0 2;");
        isForced(all, 0, 0, 0, 2, 1);
        LatinRectangles both = Texts.of("rectangle 3 3;ban 0 1 2;ban 0 2 2;ban 1 0 1;ban 2 0 1;");
        isForced(both, 0, 0, 0, 2, 2);
        // symbol 0 alone, and a symbol that the next cell of the column has, but the last one has not
        isForced(Texts.of("rectangle 2 3;ban 0 1 0;ban 0 2 0;"), 0, 0, 0, 0, 2);
        isForced(Texts.of("rectangle 3 3;ban 0 0 0;ban 1 0 0;"), 0, 2, 0, 0, 3);
        Check.same("another cell of the column has it", Texts.of("rectangle 3 3;ban 2 0 2;").forcedCells(), 0);
        Check.same("another cell of the row has it", Texts.of("rectangle 2 3;ban 0 2 2;").forcedCells(), 0);
        // a cell without candidates is not forced
        LatinRectangles dead = Texts.of("rectangle 1 2;ban 0 0 0;ban 0 0 1;ban 0 1 0;");
        Check.same("a dead cell is not forced", dead.forcedCells(), 1);
        isForced(dead, 0, 0, 1, 1, 1);
    }

    private static void promise10LowestSymbol() {
        LatinRectangles row = Texts.of("rectangle 1 3;ban 0 1 1;ban 0 1 2;ban 0 2 1;ban 0 2 2;");
        isForced(row, 0, 0, 0, 1, 2);
        LatinRectangles column = Texts.of("rectangle 3 3;ban 1 1 0;ban 2 1 0;ban 1 1 2;ban 2 1 2;");
        // (0, 1) alone has 0 and 2 in its column
        isForced(column, 0, 0, 1, 0, 3);
    }

    private static void isForced(LatinRectangles x, int k, int... due) {
        for (int what = 0; what < 4; what++) {
            Check.same("forced(" + k + ", " + what + ")", x.forced(k, what), due[what]);
        }
    }

    private static void promise11() {
        LatinRectangles x = Texts.filled("rectangle 2 4;ban 1 3 1;ban 1 3 2;", "0..1");
        // candidates: (0,1) 2, (0,2) 2, (1,0) 3, (1,1) 4, (1,2) 4, (1,3) 2
        int[][] due = {{0, 1, 2}, {0, 2, 2}, {1, 3, 2}, {1, 0, 3}, {1, 1, 4}, {1, 2, 4}};
        for (int k = 0; k < due.length; k++) {
            for (int what = 0; what < 3; what++) {
                Check.same("emptyCell(" + k + ", " + what + ")", x.emptyCell(k, what), due[k][what]);
            }
        }
        for (int what = 0; what < 3; what++) {
            Check.same("emptyCell(6, " + what + ")", x.emptyCell(6, what), -1);
            Check.same("emptyCell(-1, " + what + ")", x.emptyCell(-1, what), -1);
        }
        Check.same("emptyCell(MIN, 0)", x.emptyCell(Integer.MIN_VALUE, 0), -1);
        Check.same("emptyCell(MAX, 0)", x.emptyCell(Integer.MAX_VALUE, 0), -1);
        Check.throwsArgument("emptyCell(0, 3)", () -> x.emptyCell(0, 3));
        Check.throwsArgument("emptyCell(0, -1)", () -> x.emptyCell(0, -1));
        Check.throwsArgument("emptyCell(-1, 3)", () -> x.emptyCell(-1, 3));
        LatinRectangles dead = Texts.of("rectangle 1 2;given 0 1 0;ban 0 0 1;");
        Check.same("a cell without candidates: row", dead.emptyCell(0, 0), 0);
        Check.same("a cell without candidates: column", dead.emptyCell(0, 1), 0);
        Check.same("a cell without candidates: number", dead.emptyCell(0, 2), 0);
        LatinRectangles full = Texts.filled("rectangle 1 2;", "01");
        Check.same("no empty cell", full.emptyCell(0, 2), -1);
    }

    private static void promise12() {
        LatinRectangles x = Texts.filled("rectangle 3 4;given 0 0 1;", "13..", "31..", "...1");
        Check.same("uses(0)", x.uses(0), 0);
        Check.same("uses(1)", x.uses(1), 3);
        Check.same("uses(3)", x.uses(3), 2);
        Check.same("uses(4)", x.uses(4), 0);
        Check.same("uses(4) of the greatest", Texts.filled("rectangle 5 5;", "....4", "4....", ".4...", "..4..", "...4.").uses(4), 5);
        Check.same("uses(-1)", x.uses(-1), 0);
        Check.same("uses(MIN)", x.uses(Integer.MIN_VALUE), 0);
        Check.same("uses(33)", x.uses(33), 0);
    }

    private static void promise13() {
        LatinRectangles x = Texts.filled("rectangle 3 4;given 0 0 1;", "13..", "31..", "...1");
        int[] due = {1, 3, 0, 2};
        for (int k = 0; k < 4; k++) {
            Check.same("symbolByUse(" + k + ")", x.symbolByUse(k), due[k]);
        }
        Check.same("symbolByUse(4)", x.symbolByUse(4), -1);
        Check.same("symbolByUse(-1)", x.symbolByUse(-1), -1);
        Check.same("symbolByUse(MIN)", x.symbolByUse(Integer.MIN_VALUE), -1);
        Check.same("symbolByUse(MAX)", x.symbolByUse(Integer.MAX_VALUE), -1);
        LatinRectangles full = Texts.filled("rectangle 2 2;", "10", "01");
        Check.same("the same number: by number", full.symbolByUse(0), 0);
        Check.same("the same number: by number", full.symbolByUse(1), 1);
    }
}
