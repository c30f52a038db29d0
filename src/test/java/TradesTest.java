/** Promises 24 and 25: tradeSize, isTrade. */
public final class TradesTest {
    public static void main(String[] args) {
        promise24();
        promise25();
        promise25Lines();
        Check.end();
    }

    private static void promise24() {
        LatinRectangles x = Texts.filled("rectangle 2 4;", "0123", "1032");
        Check.throwsState("tradeSize(0) of an empty slot", () -> x.tradeSize(0));
        x.saveSnapshot(1);
        Check.throwsState("tradeSize(0) of an empty slot", () -> x.tradeSize(0));
        Check.same("nothing changed", x.tradeSize(1), 0);
        x.switchCycle(0, 1, 3);
        Check.same("a switched cycle", x.tradeSize(1), 4);
        x.empty(0, 0);
        Check.same("an emptied cell", x.tradeSize(1), 5);
        x.empty(0, 2);
        Check.same("emptied instead of changed", x.tradeSize(1), 5);
        x.saveSnapshot(0);
        x.fill(0, 0, 0);
        Check.same("a filled cell", x.tradeSize(0), 1);
        Check.same("back as it was", x.tradeSize(1), 4);
        Check.throwsBounds("tradeSize(2)", () -> x.tradeSize(2));
        Check.throwsBounds("tradeSize(-1)", () -> x.tradeSize(-1));
    }

    private static void promise25() {
        LatinRectangles x = Texts.filled("rectangle 2 4;", "0123", "1032");
        Check.throwsState("isTrade(0) of an empty slot", () -> x.isTrade(0) ? 1 : 0);
        x.saveSnapshot(0);
        Check.isFalse("nothing changed", x.isTrade(0));
        x.switchCycle(0, 1, 0);
        Check.isTrue("a switched cycle", x.isTrade(0));
        x.switchCycle(0, 1, 2);
        Check.isTrue("both switched", x.isTrade(0));
        x.empty(0, 0);
        Check.isFalse("an emptied cell", x.isTrade(0));
        x.saveSnapshot(1);
        x.fill(0, 0, 1);
        Check.isFalse("a filled cell", x.isTrade(1));
        Check.isTrue("filled again", x.isTrade(0));
        Check.throwsBounds("isTrade(2)", () -> x.isTrade(2) ? 1 : 0);
        Check.throwsBounds("isTrade(-1)", () -> x.isTrade(-1) ? 1 : 0);
    }

    private static void promise25Lines() {
        // the rows keep their sets, the columns do not
        LatinRectangles rows = Texts.filled("rectangle 1 3;", "012");
        rows.saveSnapshot(0);
        Texts.refill(rows, "102");
        Check.isFalse("columns differ", rows.isTrade(0));
        Check.same("two cells", rows.tradeSize(0), 2);
        // the columns keep their sets, the rows do not
        LatinRectangles columns = Texts.filled("rectangle 2 3;", "0..", "1..");
        columns.saveSnapshot(0);
        Texts.refill(columns, "1..", "0..");
        Check.isFalse("rows differ", columns.isTrade(0));
        // another symbol
        LatinRectangles symbol = Texts.filled("rectangle 2 3;", "0..");
        symbol.saveSnapshot(0);
        Texts.refill(symbol, "2..");
        Check.isFalse("a symbol differs", symbol.isTrade(0));
        // a trade of three rows and three columns that no cycle makes
        LatinRectangles whole = Texts.filled("rectangle 3 3;", "012", "120", "201");
        whole.saveSnapshot(0);
        Texts.refill(whole, "120", "201", "012");
        Check.isTrue("rows turned", whole.isTrade(0));
        // in the last row and column alone
        LatinRectangles last = Texts.filled("rectangle 5 5;", ".....", ".....", ".....", "...01", "...10");
        last.saveSnapshot(0);
        Texts.refill(last, ".....", ".....", ".....", "...10", "...01");
        Check.isTrue("the last cells", last.isTrade(0));
        Texts.refill(last, ".....", ".....", ".....", "...10", "...02");
        Check.isFalse("the last cells spoilt", last.isTrade(0));
    }
}
