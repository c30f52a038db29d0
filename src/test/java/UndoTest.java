/** Promises 31 to 33: undo, saveSnapshot, restoreSnapshot. */
public final class UndoTest {
    public static void main(String[] args) {
        promise31();
        promise31MostChanges();
        promise31AllKinds();
        promise32();
        promise33();
        Check.end();
    }

    private static void promise31() {
        LatinRectangles x = Texts.of("rectangle 2 3;given 0 0 0;");
        Check.same("nothing to undo", x.undo(), -1);
        x.fill(0, 1, 1);
        x.fill(0, 2, 2);
        Check.same("undo", x.undo(), 1);
        Texts.hasRow("undone", x, 0, "01.");
        x.fill(1, 0, 2);
        Check.same("a new change behind an undone one", x.undo(), 1);
        Texts.hasRow("undone", x, 1, "...");
        Check.same("undo", x.undo(), 0);
        Texts.hasRow("undone", x, 0, "0..");
        Check.same("nothing left", x.undo(), -1);
        Check.isTrue("given cells stay", x.isGiven(0, 0));
        Check.same("candidates", x.candidates(0, 1), 6);
        Check.same("filled cells", x.size(2), 1);
    }

    private static void promise31MostChanges() {
        LatinRectangles x = Texts.of("rectangle 1 5;");
        for (int n = 0; n < 13; n++) {
            x.fill(0, 0, n % 5);
            x.empty(0, 0);
        }
        x.fill(0, 1, 4);
        // the latest: fill 4 in (0, 1); behind it empty, fill 2, empty, fill 1 and so on
        for (int left = 9; left >= 0; left--) {
            Check.same("undo", x.undo(), left);
            Texts.hasRow("undone", x, 0, left % 2 == 1 ? "....." : new int[] {3, 4, 0, 1, 2}[left / 2] + "....");
        }
        Check.same("the eleventh", x.undo(), -1);
        Texts.hasRow("nothing more is undone", x, 0, "3....");
        x.fill(0, 2, 1);
        Check.same("a new one", x.undo(), 0);
        Check.same("and nothing ahead of it", x.undo(), -1);
    }

    private static void promise31AllKinds() {
        LatinRectangles x = Texts.of("rectangle 2 4;");
        x.fillRow(0);
        x.fillRow(1);
        x.switchCycle(0, 1, 0);
        x.empty(0, 0);
        x.propagate();
        Texts.hasRow("propagated", x, 0, "1023");
        Check.same("propagate undone", x.undo(), 4);
        Texts.hasRow("propagate undone", x, 0, ".023");
        Check.same("empty undone", x.undo(), 3);
        Texts.hasRow("empty undone", x, 0, "1023");
        Check.same("switchCycle undone", x.undo(), 2);
        Texts.hasRow("switchCycle undone", x, 0, "0123");
        Texts.hasRow("switchCycle undone", x, 1, "1032");
        Check.same("fillRow undone", x.undo(), 1);
        Texts.hasRow("fillRow undone", x, 1, "....");
        x.saveSnapshot(0);
        x.cycleBySize(0, 0);
        Check.same("other calls are no changes", x.undo(), 0);
        Check.same("an undo leaves snapshots", x.tradeSize(0), 4);
    }

    private static void promise32() {
        LatinRectangles x = Texts.filled("rectangle 2 3;", "0..");
        Check.isFalse("the first of slot 0", x.saveSnapshot(0));
        Check.isFalse("the first of slot 1", x.saveSnapshot(1));
        x.fill(0, 1, 1);
        Check.same("both keep the cells", x.tradeSize(0) + x.tradeSize(1), 2);
        Check.isTrue("in place of an earlier one", x.saveSnapshot(0));
        Check.same("slot 0", x.tradeSize(0), 0);
        Check.same("slot 1", x.tradeSize(1), 1);
        Check.throwsBounds("saveSnapshot(2)", () -> x.saveSnapshot(2) ? 1 : 0);
        Check.throwsBounds("saveSnapshot(-1)", () -> x.saveSnapshot(-1) ? 1 : 0);
        Check.same("a snapshot is no change", x.undo(), 1);
        Texts.parse(x, "rectangle 2 3;");
        Check.isFalse("emptied by parse", x.saveSnapshot(0));
    }

    private static void promise33() {
        LatinRectangles x = Texts.filled("rectangle 2 3;given 1 1 1;", "0..");
        x.saveSnapshot(1);
        Check.throwsState("an empty slot", () -> x.restoreSnapshot(0));
        Check.throwsBounds("restoreSnapshot(2)", () -> x.restoreSnapshot(2));
        Check.throwsBounds("restoreSnapshot(-1)", () -> x.restoreSnapshot(-1));
        x.fillRow(0);
        x.fillRow(1);
        Check.same("restoreSnapshot(1)", x.restoreSnapshot(1), 2);
        Texts.hasRow("restored", x, 0, "0..");
        Texts.hasRow("restored", x, 1, ".1.");
        Check.same("the history is empty", x.undo(), -1);
        Check.isTrue("given cells stay given", x.isGiven(1, 1));
        Check.isFalse("others do not", x.isGiven(0, 0));
        Check.same("candidates", x.candidates(0, 1), 4);
        x.empty(0, 0);
        Check.same("it stays stored", x.restoreSnapshot(1), 2);
        Texts.hasRow("restored again", x, 0, "0..");
        Check.isTrue("it is still there", x.saveSnapshot(1));
        x.fill(0, 2, 1);
        Check.throwsState("an empty slot", () -> x.restoreSnapshot(0));
        Check.same("a refused one leaves the history", x.undo(), 0);
    }
}
