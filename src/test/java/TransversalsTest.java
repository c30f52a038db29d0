/** Promises 17 to 20: transversals, transversalsThrough, firstTransversal, longestTransversal. */
public final class TransversalsTest {
    private static LatinRectangles klein() {
        return Texts.filled("rectangle 4 4;", "0123", "1032", "2301", "3210");
    }

    private static LatinRectangles cyclic() {
        return Texts.filled("rectangle 4 4;", "0123", "1230", "2301", "3012");
    }

    public static void main(String[] args) {
        promise17();
        promise18();
        promise19();
        promise20();
        Check.end();
    }

    private static void promise17() {
        Check.same("klein", klein().transversals(), 8);
        Check.same("cyclic of even side", cyclic().transversals(), 0);
        Check.same("cyclic of side 5",
            Texts.filled("rectangle 5 5;", "01234", "12340", "23401", "34012", "40123").transversals(), 15);
        Check.same("empty", new LatinRectangles().transversals(), 0);
        Check.same("one row", Texts.filled("rectangle 1 3;", "2.0").transversals(), 2);
        // (0,0)-(1,2), (0,1)-(1,2): 0 and 1 with 2; (0,1)-(1,0) has 1 twice
        Check.same("partly filled", Texts.filled("rectangle 2 3;", "01.", "1.2").transversals(), 2);
    }

    private static void promise18() {
        LatinRectangles x = klein();
        for (int row = 0; row < 4; row++) {
            for (int column = 0; column < 4; column++) {
                Check.same("transversalsThrough(" + row + ", " + column + ")", x.transversalsThrough(row, column), 2);
            }
        }
        LatinRectangles part = Texts.filled("rectangle 2 3;", "01.", "1.2");
        int[][] due = {{1, 1, 0}, {0, 0, 2}};
        for (int row = 0; row < 2; row++) {
            for (int column = 0; column < 3; column++) {
                Check.same("transversalsThrough(" + row + ", " + column + ")",
                    part.transversalsThrough(row, column), due[row][column]);
            }
        }
        Check.throwsBounds("transversalsThrough(2, 0)", () -> part.transversalsThrough(2, 0));
        Check.throwsBounds("transversalsThrough(0, 3)", () -> part.transversalsThrough(0, 3));
        Check.throwsBounds("transversalsThrough(-1, 0)", () -> part.transversalsThrough(-1, 0));
        Check.throwsBounds("transversalsThrough(0, -1)", () -> part.transversalsThrough(0, -1));
    }

    private static void promise19() {
        LatinRectangles x = klein();
        int[] due = {0, 2, 3, 1};
        for (int row = 0; row < 4; row++) {
            Check.same("firstTransversal(" + row + ")", x.firstTransversal(row), due[row]);
        }
        LatinRectangles none = cyclic();
        for (int row = 0; row < 4; row++) {
            Check.same("none: firstTransversal(" + row + ")", none.firstTransversal(row), -1);
        }
        LatinRectangles five = Texts.filled("rectangle 5 5;", "01234", "12340", "23401", "34012", "40123");
        for (int row = 0; row < 5; row++) {
            Check.same("side 5: firstTransversal(" + row + ")", five.firstTransversal(row), row);
        }
        five.empty(4, 4);
        five.empty(4, 0);
        five.empty(4, 1);
        five.empty(4, 2);
        five.empty(4, 3);
        Check.same("no cell in the last row", five.firstTransversal(0), -1);
        LatinRectangles part = Texts.filled("rectangle 2 3;", ".01", "1.0");
        // (0,1) with 0 has (1,0) with 1
        Check.same("an empty cell is skipped", part.firstTransversal(0), 1);
        Check.same("an empty cell is skipped", part.firstTransversal(1), 0);
        // from (0, 0) there is no way on: symbol 0 again, or column 0
        LatinRectangles back = Texts.filled("rectangle 2 3;", "01.", ".0.");
        Check.same("none from either column", back.firstTransversal(0), -1);
        LatinRectangles second = Texts.filled("rectangle 2 3;", "0.1", ".0.");
        Check.same("a way back", second.firstTransversal(0), 2);
        Check.same("a way back", second.firstTransversal(1), 1);
        Check.throwsBounds("firstTransversal(4)", () -> x.firstTransversal(4));
        Check.throwsBounds("firstTransversal(-1)", () -> x.firstTransversal(-1));
    }

    private static void promise20() {
        Check.same("klein", klein().longestTransversal(), 4);
        Check.same("cyclic", cyclic().longestTransversal(), 3);
        Check.same("empty", new LatinRectangles().longestTransversal(), 0);
        Check.same("side 5",
            Texts.filled("rectangle 5 5;", "01234", "12340", "23401", "34012", "40123").longestTransversal(), 5);
        Check.same("2 x 2", Texts.filled("rectangle 2 2;", "01", "10").longestTransversal(), 1);
        Check.same("the first row left out", Texts.filled("rectangle 3 3;", "...", "0..", ".1.").longestTransversal(), 2);
        Check.same("one symbol", Texts.filled("rectangle 3 3;", "0..", ".0.", "..0").longestTransversal(), 1);
        Check.same("one column", Texts.filled("rectangle 3 3;", "0..", "1..", "2..").longestTransversal(), 1);
        Check.same("one row", Texts.filled("rectangle 3 3;", "012").longestTransversal(), 1);
    }
}
