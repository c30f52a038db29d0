/** Promises 26 to 30: fill, empty, propagate, fillRow, switchCycle. */
public final class ChangesTest {
    public static void main(String[] args) {
        promise26();
        promise27();
        promise28();
        promise28Order();
        promise29();
        promise29Bans();
        promise30();
        promise30Refused();
        Check.end();
    }

    private static void promise26() {
        LatinRectangles x = Texts.of("rectangle 2 3;given 0 0 1;ban 1 1 2;");
        Check.same("fill(0, 1, 0)", x.fill(0, 1, 0), 4);
        Check.same("fill(1, 0, 0)", x.fill(1, 0, 0), 3);
        Check.throwsState("a filled cell", () -> x.fill(0, 1, 2));
        Check.throwsState("a given cell", () -> x.fill(0, 0, 2));
        Check.throwsState("its own symbol", () -> x.fill(0, 0, 1));
        Check.throwsState("in the row", () -> x.fill(0, 2, 1));
        Check.throwsState("in the column", () -> x.fill(1, 1, 0));
        Check.throwsState("forbidden", () -> x.fill(1, 1, 2));
        Check.throwsArgument("symbol 3", () -> x.fill(1, 1, 3));
        Check.throwsArgument("symbol -1", () -> x.fill(1, 1, -1));
        Check.throwsArgument("symbol 33", () -> x.fill(1, 1, 33));
        Check.throwsArgument("symbol -31", () -> x.fill(1, 1, -31));
        Check.throwsArgument("no symbol, filled", () -> x.fill(0, 0, 3));
        Check.throwsBounds("row 2", () -> x.fill(2, 0, 9));
        Check.throwsBounds("row -1", () -> x.fill(-1, 0, 0));
        Check.throwsBounds("column 3", () -> x.fill(0, 3, 9));
        Check.throwsBounds("column -1", () -> x.fill(0, -1, 0));
        Texts.hasRow("refused fills change nothing", x, 0, "10.");
        Texts.hasRow("refused fills change nothing", x, 1, "0..");
        Check.same("refused fills are no changes", x.undo(), 1);
        LatinRectangles last = Texts.filled("rectangle 1 2;", "0.");
        Check.same("the last cell", last.fill(0, 1, 1), 0);
        Check.isFalse("a filled cell is not given", last.isGiven(0, 1));
    }

    private static void promise27() {
        LatinRectangles x = Texts.filled("rectangle 2 3;given 0 0 1;", "10.", "02.");
        Check.same("empty(0, 1)", x.empty(0, 1), 0);
        Check.same("empty(1, 1)", x.empty(1, 1), 2);
        Texts.hasRow("emptied", x, 0, "1..");
        Texts.hasRow("emptied", x, 1, "0..");
        Check.same("candidates come back", x.candidates(0, 1), 5);
        Check.same("filled cells", x.size(2), 2);
        Check.throwsState("empty already", () -> x.empty(0, 1));
        Check.throwsState("given", () -> x.empty(0, 0));
        Check.throwsBounds("row 2", () -> x.empty(2, 0));
        Check.throwsBounds("row -1", () -> x.empty(-1, 0));
        Check.throwsBounds("column 3", () -> x.empty(0, 3));
        Check.throwsBounds("column -1", () -> x.empty(0, -1));
        Check.same("refused ones are no changes", x.undo(), 4);
    }

    private static void promise28() {
        LatinRectangles x = Texts.filled("rectangle 3 3;", "01.", "1..");
        Check.same("propagate", x.propagate(), 6);
        Texts.hasRow("propagated", x, 0, "012");
        Texts.hasRow("propagated", x, 1, "120");
        Texts.hasRow("propagated", x, 2, "201");
        Check.same("nothing left", x.propagate(), 0);
        Check.same("one that fills nothing is a change too", x.undo(), 4);
        Check.same("one change for all cells", x.undo(), 3);
        Texts.hasRow("undone", x, 0, "01.");
        Texts.hasRow("undone", x, 2, "...");
        Check.same("no forced cell", new LatinRectangles().propagate(), 0);
    }

    private static void promise28Order() {
        // (0, 0) is forced to 0 by reason 1, (0, 1) too: the first gets it, the second is dead then
        LatinRectangles x = Texts.of("rectangle 1 3;ban 0 0 1;ban 0 0 2;ban 0 1 1;ban 0 1 2;");
        Check.same("both forced", x.forcedCells(), 3);
        Check.same("propagate", x.propagate(), 2);
        Texts.hasRow("the first one wins", x, 0, "0.1");
        Check.same("a dead cell", x.size(5), 1);
        // not all forced cells at once: what is forced is told anew behind each one
        LatinRectangles anew = Texts.of("rectangle 2 3;ban 1 0 0;ban 1 0 1;ban 0 0 0;ban 0 0 1;");
        Check.same("propagate anew", anew.propagate(), 1);
        Texts.hasRow("anew", anew, 0, "2..");
        Texts.hasRow("anew", anew, 1, "...");
    }

    private static void promise29() {
        LatinRectangles x = Texts.of("rectangle 2 4;given 0 1 3;");
        Check.same("fillRow(0)", x.fillRow(0), 3);
        Texts.hasRow("filled", x, 0, "0312");
        Check.same("fillRow(1)", x.fillRow(1), 4);
        Texts.hasRow("filled", x, 1, "1023");
        Check.same("a full row", x.fillRow(1), 0);
        Check.same("which is a change too", x.undo(), 2);
        Check.same("one change for a row", x.undo(), 1);
        Texts.hasRow("undone", x, 1, "....");
        Check.throwsBounds("fillRow(2)", () -> x.fillRow(2));
        Check.throwsBounds("fillRow(-1)", () -> x.fillRow(-1));
    }

    private static void promise29Bans() {
        // 0 at first leaves no place for 2
        LatinRectangles x = Texts.of("rectangle 1 3;ban 0 1 2;ban 0 2 2;");
        Check.same("a way back", x.fillRow(0), 3);
        Texts.hasRow("filled", x, 0, "201");
        LatinRectangles columns = Texts.filled("rectangle 3 3;", "01.", "1..");
        Check.same("columns count", columns.fillRow(2), 3);
        Texts.hasRow("filled", columns, 2, "201");
        LatinRectangles none = Texts.filled("rectangle 2 3;ban 0 1 2;ban 0 2 2;", "0..");
        Check.throwsState("no way", () -> none.fillRow(0));
        Texts.hasRow("nothing changed", none, 0, "0..");
        Check.same("no change", none.undo(), 0);
        // other rows need not be completable
        LatinRectangles other = Texts.of("rectangle 2 2;ban 1 0 0;ban 1 0 1;");
        Check.same("the other row", other.fillRow(0), 2);
        Texts.hasRow("the other row", other, 0, "01");
        Check.throwsState("the dead row", () -> other.fillRow(1));
    }

    private static void promise30() {
        LatinRectangles x = Texts.filled("rectangle 3 5;", "01234", "10342", "2....");
        Check.same("switchCycle(0, 1, 4)", x.switchCycle(0, 1, 4), 3);
        Texts.hasRow("switched", x, 0, "01342");
        Texts.hasRow("switched", x, 1, "10234");
        Texts.hasRow("the third row stays", x, 2, "2....");
        Check.same("switchCycle(1, 0, 1)", x.switchCycle(1, 0, 1), 2);
        Texts.hasRow("switched", x, 0, "10342");
        Texts.hasRow("switched", x, 1, "01234");
        Check.same("candidates", x.candidates(2, 3), 3);
        Check.same("one change", x.undo(), 9);
        Texts.hasRow("the latest one undone", x, 0, "01342");
    }

    private static void promise30Refused() {
        LatinRectangles x = Texts.filled("rectangle 3 4;given 0 0 0;ban 0 2 3;", "0123", "1032", "2...");
        Check.throwsState("a given cell in row a", () -> x.switchCycle(0, 1, 1));
        Check.throwsState("a given cell in row b", () -> x.switchCycle(1, 0, 1));
        Check.throwsState("a forbidden symbol for a", () -> x.switchCycle(0, 1, 3));
        Check.throwsState("a forbidden symbol for b", () -> x.switchCycle(1, 0, 3));
        Check.throwsState("row b not full", () -> x.switchCycle(0, 2, 0));
        Check.throwsState("row a not full", () -> x.switchCycle(2, 0, 0));
        Check.throwsArgument("the same row", () -> x.switchCycle(2, 2, 0));
        Check.throwsBounds("the same row, no column", () -> x.switchCycle(2, 2, 4));
        Check.throwsBounds("no row a", () -> x.switchCycle(3, 3, 0));
        Check.throwsBounds("no row b", () -> x.switchCycle(0, 3, 0));
        Check.throwsBounds("row -1", () -> x.switchCycle(-1, 0, 0));
        Check.throwsBounds("row -1", () -> x.switchCycle(0, -1, 0));
        Check.throwsBounds("column -1", () -> x.switchCycle(0, 1, -1));
        Texts.hasRow("nothing changed", x, 0, "0123");
        Texts.hasRow("nothing changed", x, 1, "1032");
        Check.same("no change", x.undo(), 7);
        // given and forbidden outside of the cycle are no hindrance
        LatinRectangles free = Texts.filled("rectangle 2 4;given 0 0 0;ban 1 1 1;ban 0 2 0;", "0123", "1032");
        Check.same("a free cycle", free.switchCycle(0, 1, 2), 2);
        Texts.hasRow("switched", free, 0, "0132");
        // a ban of another symbol in the cycle is none either
        Check.same("back again", free.switchCycle(0, 1, 3), 2);
        Texts.hasRow("switched back", free, 0, "0123");
    }
}
