/** Promises 14 to 16: completions, completed, possible. */
public final class CompletionsTest {
    public static void main(String[] args) {
        promise14();
        promise15();
        promise16();
        nothingChanges();
        Check.end();
    }

    private static void promise14() {
        Check.same("2 x 2", new LatinRectangles().completions(1000), 2);
        Check.same("1 x 5", Texts.of("rectangle 1 5;").completions(1000), 120);
        Check.same("3 x 3", Texts.of("rectangle 3 3;").completions(1000), 12);
        Check.same("3 x 4", Texts.of("rectangle 3 4;").completions(1000), 576);
        Check.same("4 x 4", Texts.of("rectangle 4 4;").completions(1000), 576);
        LatinRectangles x = Texts.of("rectangle 4 4;");
        Check.same("the limit", x.completions(575), 575);
        Check.same("the number itself", x.completions(576), 576);
        Check.same("more", x.completions(577), 576);
        Check.same("limit 1", x.completions(1), 1);
        Check.same("5 x 5", Texts.of("rectangle 5 5;").completions(1000), 1000);
        Check.throwsArgument("completions(0)", () -> x.completions(0));
        Check.throwsArgument("completions(-1)", () -> x.completions(-1));
        Check.throwsArgument("completions(1001)", () -> x.completions(1001));
        Check.throwsArgument("completions(MAX)", () -> x.completions(Integer.MAX_VALUE));
        Check.same("a full one", Texts.filled("rectangle 1 2;", "10").completions(1000), 1);
        Check.same("none", Texts.of("rectangle 1 2;given 0 0 0;ban 0 1 1;").completions(1000), 0);
        Check.same("a ban", Texts.of("rectangle 1 3;ban 0 1 1;").completions(1000), 4);
        // no cell is dead, but symbol 0 has one column for two rows
        Check.same("no way at the end", Texts.of("rectangle 2 3;ban 0 0 0;ban 0 1 0;ban 1 0 0;ban 1 1 0;").completions(5), 0);
        Check.same("reduced squares", Texts.of("rectangle 4 4;given 0 0 0;given 0 1 1;given 0 2 2;given 0 3 3;"
            + "given 1 0 1;given 2 0 2;given 3 0 3;").completions(1000), 4);
    }

    private static void promise15() {
        hasFirst("empty", Texts.of("rectangle 3 3;"), "012", "120", "201");
        hasFirst("filled ones stay", Texts.filled("rectangle 2 4;given 0 1 0;", "..3.", ".3.."), "1032", "0321");
        hasFirst("a ban", Texts.of("rectangle 2 3;ban 0 0 0;ban 1 0 0;"), "102", "210");
        // the lowest symbol of the first cell has no completion, though no cell shows it at once
        hasFirst("look ahead", Texts.of("rectangle 2 3;ban 0 1 1;ban 0 2 1;"), "102", "021");
        hasFirst("look far ahead", Texts.of("rectangle 3 3;ban 2 0 2;ban 1 0 2;"), "201", "012", "120");
        hasFirst("the order of cells, not of rows alone", Texts.of("rectangle 2 4;given 1 3 0;"), "0123", "1230");
        LatinRectangles none = Texts.of("rectangle 1 3;given 0 0 0;ban 0 1 1;ban 0 2 1;");
        Check.same("no completion: an empty cell", none.completed(0, 1), -1);
        Check.same("no completion: a filled cell", none.completed(0, 0), -1);
        LatinRectangles x = Texts.of("rectangle 2 3;");
        Check.throwsBounds("completed(2, 0)", () -> x.completed(2, 0));
        Check.throwsBounds("completed(0, 3)", () -> x.completed(0, 3));
        Check.throwsBounds("completed(-1, 0)", () -> x.completed(-1, 0));
        Check.throwsBounds("completed(0, -1)", () -> x.completed(0, -1));
    }

    private static void hasFirst(String when, LatinRectangles x, String... rows) {
        for (int row = 0; row < rows.length; row++) {
            for (int column = 0; column < rows[row].length(); column++) {
                Check.same(when + ": completed(" + row + ", " + column + ")",
                    x.completed(row, column), rows[row].charAt(column) - '0');
            }
        }
    }

    private static void promise16() {
        LatinRectangles x = Texts.of("rectangle 2 4;given 0 1 2;");
        Check.same("a filled cell", x.possible(0, 1), 4);
        Check.same("its row", x.possible(0, 0), 11);
        Check.same("below", x.possible(1, 1), 11);
        Check.same("elsewhere", x.possible(1, 0), 15);
        // (0, 0) has the candidates 0, 1, 2, but the row has no other place for 2
        LatinRectangles forced = Texts.of("rectangle 2 3;ban 0 1 2;ban 0 2 2;");
        Check.same("candidates", forced.candidates(0, 0), 7);
        Check.same("a forced cell", forced.possible(0, 0), 4);
        Check.same("beside it", forced.possible(0, 1), 3);
        Check.same("below it", forced.possible(1, 0), 3);
        LatinRectangles none = Texts.of("rectangle 1 3;given 0 0 0;ban 0 1 1;ban 0 2 1;");
        Check.same("no completion: an empty cell", none.possible(0, 1), 0);
        Check.same("no completion: a filled cell", none.possible(0, 0), 0);
        Check.throwsBounds("possible(2, 0)", () -> x.possible(2, 0));
        Check.throwsBounds("possible(0, 4)", () -> x.possible(0, 4));
        Check.throwsBounds("possible(-1, 0)", () -> x.possible(-1, 0));
        Check.throwsBounds("possible(0, -1)", () -> x.possible(0, -1));
    }

    private static void nothingChanges() {
        LatinRectangles x = Texts.filled("rectangle 2 3;", "0..");
        x.completions(1000);
        x.completed(1, 2);
        x.possible(1, 2);
        Texts.hasRow("after questions", x, 0, "0..");
        Texts.hasRow("after questions", x, 1, "...");
        Check.same("filled cells", x.size(2), 1);
        Check.same("candidates", x.candidates(1, 2), 7);
        Check.same("one change to undo", x.undo(), 0);
    }
}
