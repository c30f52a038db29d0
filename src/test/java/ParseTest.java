/** Promises 1 to 5: a new object, append, parse, errorPosition, size. */
public final class ParseTest {
    public static void main(String[] args) {
        promise1();
        promise2();
        promise2Bytes();
        promise3Success();
        promise3Length();
        promise3ErrorsChangeNothing();
        promise3Tokens();
        promise3Grammar();
        promise3Ranges();
        promise3Given();
        promise3Ban();
        promise3BanLimit();
        promise4();
        promise5();
        Check.end();
    }

    private static void promise1() {
        LatinRectangles x = new LatinRectangles();
        int[] sizes = {2, 2, 0, 0, 0, 0, 0};
        hasSizes("a new object", x, sizes);
        Check.same("completions of a new object", x.completions(1000), 2);
        for (int row = 0; row < 2; row++) {
            for (int column = 0; column < 2; column++) {
                Check.same("symbol of a new object", x.symbol(row, column), -1);
                Check.same("candidates of a new object", x.candidates(row, column), 3);
                Check.isFalse("isGiven of a new object", x.isGiven(row, column));
            }
        }
        Check.throwsArgument("parse(1) of a new object", () -> x.parse(1));
        Check.same("undo of a new object", x.undo(), -1);
        Check.throwsState("tradeSize of a new object", () -> x.tradeSize(0));
        Check.throwsState("tradeSize of a new object", () -> x.tradeSize(1));
        Check.same("append to a new object", x.append(0, 0, 0, 0, 0), 20);
    }

    private static void promise2() {
        LatinRectangles x = new LatinRectangles();
        for (int length = 20; length <= 500; length += 20) {
            Check.same("append", x.append(0, 0, 0, 0, 0), length);
        }
        Check.same("append to 500 bytes", x.append(0, 0, 0, 0, 0), -1);
        Check.throwsArgument("parse(501)", () -> x.parse(501));
        Check.same("parse(500)", x.parse(500), 1);
        Check.same("append to the emptied buffer", x.append(0, 0, 0, 0, 0), 20);
    }

    private static void promise2Bytes() {
        LatinRectangles x = new LatinRectangles();
        // "rect" "angl" "e 3 " "4 ; " "    "
        x.append(0x72656374, 0x616e676c, 0x65203320, 0x34203b20, 0x20202020);
        Check.same("parse of bytes in order", x.parse(20), 0);
        Check.same("rows", x.size(0), 3);
        Check.same("columns", x.size(1), 4);
        // a byte with the highest bit set is an invalid token
        x.append(0x72656374, 0x616e676c, 0x65203320, 0x34f03b20, 0x20202020);
        Check.same("parse of byte f0", x.parse(20), 1);
        Check.same("errorPosition of byte f0", x.errorPosition(), 13);
        // nothing is appended by an append that does not fit: the last text stays as it was
        String text = "rectangle 2 3;";
        Texts.append(x, text + " ".repeat(500 - text.length()));
        Check.same("append that does not fit", x.append(-1, -1, -1, -1, -1), -1);
        Check.same("parse of 500 bytes", x.parse(500), 0);
        Check.same("columns", x.size(1), 3);
    }

    private static void promise3Success() {
        LatinRectangles x = Texts.of("rectangle 2 3;given 0 1 2;ban 1 1 0;");
        hasSizes("after parse", x, 2, 3, 1, 1, 1, 0, 0);
        Check.same("the buffer is empty", x.append(0, 0, 0, 0, 0), 20);
        x.parse(0);
        x.fill(0, 0, 0);
        x.saveSnapshot(0);
        x.saveSnapshot(1);
        Check.same("parse again", Texts.parse(x, "rectangle 1 2;"), 0);
        hasSizes("after the second parse", x, 1, 2, 0, 0, 0, 0, 0);
        Check.same("the history is empty", x.undo(), -1);
        Check.throwsState("slot 0 is empty", () -> x.tradeSize(0));
        Check.throwsState("slot 1 is empty", () -> x.restoreSnapshot(1));
        Check.isFalse("the given cell is gone", x.isGiven(0, 1));
        Check.same("the ban is gone", Texts.of("rectangle 2 3;").candidates(1, 1), 7);
        Check.same("parse with a ban", Texts.parse(x, "rectangle 2 2;ban 0 0 0;"), 0);
        Check.same("parse without it", Texts.parse(x, "rectangle 2 2;"), 0);
        Check.same("no ban is left", x.candidates(0, 0), 3);
    }

    private static void promise3Length() {
        LatinRectangles x = new LatinRectangles();
        Check.throwsArgument("parse(-1)", () -> x.parse(-1));
        Check.throwsArgument("parse(MIN)", () -> x.parse(Integer.MIN_VALUE));
        Check.throwsArgument("parse(MAX)", () -> x.parse(Integer.MAX_VALUE));
        Texts.append(x, "rectangle 2 3;");
        Check.throwsArgument("parse(21)", () -> x.parse(21));
        Check.same("a parse that throws leaves the buffer", x.append(0, 0, 0, 0, 0), 40);
        Check.same("only the first bytes count", x.parse(14), 0);
        Texts.append(x, "rectangle 2 34;");
        Check.same("a cut text ends too early", x.parse(13), 1);
        Check.same("errorPosition", x.errorPosition(), 13);
    }

    private static void promise3ErrorsChangeNothing() {
        LatinRectangles x = Texts.of("rectangle 3 3;given 0 0 0;ban 1 1 1;");
        x.fill(0, 1, 1);
        x.saveSnapshot(1);
        Check.same("bad parse", Texts.parse(x, "rectangle 2 4;given 0 0 1;ban 0 1 0;given 0 0 0;"), 2);
        Check.same("the buffer is empty", x.append(0, 0, 0, 0, 0), 20);
        hasSizes("after a bad parse", x, 3, 3, 2, 1, 1, 0, 0);
        Check.same("symbol(0, 0)", x.symbol(0, 0), 0);
        Check.isTrue("isGiven(0, 0)", x.isGiven(0, 0));
        Check.same("candidates(1, 1)", x.candidates(1, 1), 5);
        Check.same("tradeSize(1)", x.tradeSize(1), 0);
        Check.same("undo", x.undo(), 0);
    }

    private static void promise3Tokens() {
        fails("", 1, 0);
        fails("   \n ", 1, 5);
        fails("rectangles 2 2;", 1, 0);
        fails(" rectangl 2 2;", 1, 1);
        fails("sectangle 2 2;", 1, 0);
        fails("rectanglf 2 2;", 1, 0);
        fails("rectangle 2 2;fan 0 0 0;", 1, 14);
        fails("rectangle 2 2;bad 0 0 0;", 1, 14);
        fails("rectangle 19 2;", 3, 10);
        fails("rectangle 2 20;", 3, 12);
        fails("Rectangle 2 2;", 1, 0);
        fails("rectangle 002 2;", 1, 10);
        fails("rectangle 2 100;", 1, 12);
        fails("rectangle 2\t2;", 1, 11);
        fails("rectangle 2\r2;", 1, 11);
        fails("rectangle -2 2;", 1, 10);
        fails("rectangle 2 2;givens 0 0 0;", 1, 14);
        fails("rectangle 2 2;givengivengiven 0 0 0;", 1, 14);
        fails("rectangle 2 2;given 0 0 000;", 1, 24);
        fails("rectangle 2 2;\0", 1, 14);
        fails("rectangle 2 2;`", 1, 14);
        fails("rectangle 2 2;{", 1, 14);
        fails("rectangle 2 2:", 1, 13);
        fails("rectangle 2 2/", 1, 13);
        passes("rectangle2 3;");
        passes("\n rectangle\n02 03 ;\n");
        passes("rectangle 2 2;given0 0 0;ban01 01 01;");
        passes("rectangle 1 2;");
    }

    private static void promise3Grammar() {
        fails("rectangle", 1, 9);
        fails("rectangle ", 1, 10);
        fails("rectangle 2", 1, 11);
        fails("rectangle 2 2", 1, 13);
        fails("rectangle ; 2 2", 1, 10);
        fails("rectangle given 2;", 1, 10);
        fails("rectangle 2 ;", 1, 12);
        fails("rectangle 2 2 2;", 1, 14);
        fails("rectangle 2 2;;", 1, 14);
        fails("rectangle 2 2;2", 1, 14);
        fails("rectangle 2 2;rectangle 2 2;", 1, 14);
        fails("rectangle 2 2;given", 1, 19);
        fails("rectangle 2 2;given 0", 1, 21);
        fails("rectangle 2 2;given 0 0 ", 1, 24);
        fails("rectangle 2 2;given 0 0 0", 1, 25);
        fails("rectangle 2 2;given 0 0 0 0;", 1, 26);
        fails("rectangle 2 2;given ban 0 0;", 1, 20);
        fails("rectangle 2 2;given 0 ; 0", 1, 22);
        fails("rectangle 2 2;given 0 0;", 1, 23);
        fails("rectangle 2 2;ban 0 0;", 1, 21);
        fails("rectangle 2 2;ban 0 0 0", 1, 23);
        fails("given 0 0 0;", 1, 0);
        fails("2", 1, 0);
    }

    private static void promise3Ranges() {
        fails("rectangle 0 2;", 3, 10);
        fails("rectangle 6 6;", 3, 10);
        fails("rectangle 99 2;", 3, 10);
        fails("rectangle 1 1;", 3, 12);
        fails("rectangle 1 0;", 3, 12);
        fails("rectangle 1 6;", 3, 12);
        fails("rectangle 3 2;", 3, 12);
        fails("rectangle 5 4;", 3, 12);
        passes("rectangle 5 5;");
        passes("rectangle 1 5;");
        fails("rectangle 2 3;given 2 0 0;", 3, 20);
        fails("rectangle 2 3;given 0 3 0;", 3, 22);
        fails("rectangle 2 3;given 0 0 3;", 3, 24);
        fails("rectangle 2 3;ban 2 0 0;", 3, 18);
        fails("rectangle 2 3;ban 0 3 0;", 3, 20);
        fails("rectangle 2 3;ban 0 0 3;", 3, 22);
        fails("rectangle 2 3;ban 0 0 32;", 3, 22);
        fails("rectangle 2 3;ban 0 0 0;ban 0 0 32;", 3, 32);
        fails("rectangle 2 3;ban 0 0 0;given 0 0 32;", 3, 34);
        fails("rectangle 2 3;given 0 1 0;given 0 0 64;", 3, 36);
        passes("rectangle 2 3;given 1 2 2;ban 1 2 0;");
        // the first error of a text counts
        fails("rectangle 2 3;given 2 9 9?", 3, 20);
        fails("rectangle 2 3?given 2 9 9", 1, 13);
    }

    private static void promise3Given() {
        String start = "rectangle 2 3;given 0 0 1;";
        fails(start + "given 0 0 2;", 2, 36);
        fails(start + "given 0 0 1;", 2, 36);
        // both out of range and filled: the smaller code
        fails(start + "given 0 0 3;", 2, 36);
        fails(start + "given 0 0 99;", 2, 36);
        fails(start + "given 0 0 100;", 1, 36);
        fails(start + "given 0 2 1;", 2, 36);
        fails(start + "given 1 0 1;", 2, 36);
        passes(start + "given 1 2 1;");
        passes(start + "given 0 2 2;given 1 0 2;");
        fails("rectangle 2 3;ban 1 1 2;given 1 1 2;", 2, 34);
        passes("rectangle 2 3;ban 1 1 2;given 1 1 1;given 1 0 2;");
    }

    private static void promise3Ban() {
        fails("rectangle 2 3;ban 1 1 2;ban 1 1 2;", 2, 32);
        passes("rectangle 2 3;ban 1 1 2;ban 1 1 1;ban 1 1 0;ban 1 0 2;");
        fails("rectangle 2 3;given 1 1 2;ban 1 1 2;", 2, 34);
        passes("rectangle 2 3;given 1 1 2;ban 1 1 1;ban 1 2 2;ban 0 1 2;");
        LatinRectangles x = Texts.of("rectangle 2 3;given 1 1 2;ban 1 1 1;ban 1 2 2;");
        Check.same("bans of filled cells count", x.size(4), 2);
    }

    private static void promise3BanLimit() {
        StringBuilder text = new StringBuilder("rectangle 5 5;");
        for (int i = 0; i < 20; i++) {
            text.append("ban ").append(i / 5).append(' ').append(i % 5).append(" 0;");
        }
        LatinRectangles x = Texts.of(text.toString());
        Check.same("20 bans", x.size(4), 20);
        fails(text + "ban 4 4 4;", 4, text.length());
        fails(text + "ban 9 9 9;", 4, text.length());
        fails(text + " ban", 4, text.length() + 1);
        fails(text + "bans", 1, text.length());
        passes(text + "given 4 4 0;");
        fails(text + "given 4 4 0;ban 4 4 0;", 4, text.length() + 12);
    }

    private static void promise4() {
        LatinRectangles x = new LatinRectangles();
        Check.same("no parse yet", x.errorPosition(), -1);
        Texts.parse(x, "rectangle 2 7;");
        Check.same("an error", x.errorPosition(), 12);
        Check.same("asked again", x.errorPosition(), 12);
        Check.throwsArgument("parse(1)", () -> x.parse(1));
        Check.same("a parse that throws does not count", x.errorPosition(), 12);
        x.fill(0, 0, 0);
        x.append(0, 0, 0, 0, 0);
        Check.same("other calls do not count", x.errorPosition(), 12);
        Check.same("parse(0)", x.parse(0), 1);
        Check.same("a text without bytes", x.errorPosition(), 0);
        Texts.parse(x, "rectangle 2 3;");
        Check.same("a success", x.errorPosition(), -1);
    }

    private static void promise5() {
        LatinRectangles x = Texts.of("rectangle 3 4;given 0 0 0;given 1 1 0;ban 2 2 0;ban 2 3 0;ban 2 2 1;");
        hasSizes("as given", x, 3, 4, 2, 2, 3, 0, 0);
        x.fill(0, 2, 2);
        x.fill(1, 2, 3);
        // cell (2, 2) has neither 0 nor 1 by bans, neither 2 nor 3 by its column
        hasSizes("a cell without candidates", x, 3, 4, 4, 2, 3, 1, 0);
        x.fillRow(0);
        hasSizes("a full row", x, 3, 4, 6, 2, 3, 1, 1);
        x.fillRow(1);
        hasSizes("two full rows", x, 3, 4, 8, 2, 3, 1, 2);
        LatinRectangles most = Texts.filled("rectangle 5 5;ban 4 0 4;ban 4 0 0;", "01234", "12340", "23401", "34012", ".0123");
        hasSizes("the greatest", most, 5, 5, 24, 0, 2, 1, 4);
        most.undo();
        hasSizes("the last cell empty too", most, 5, 5, 23, 0, 2, 1, 4);
        Check.throwsArgument("size(7)", () -> x.size(7));
        Check.throwsArgument("size(-1)", () -> x.size(-1));
        Check.throwsArgument("size(MAX)", () -> x.size(Integer.MAX_VALUE));
        Check.throwsArgument("size(MIN)", () -> x.size(Integer.MIN_VALUE));
    }

    private static void hasSizes(String when, LatinRectangles x, int... due) {
        for (int what = 0; what < due.length; what++) {
            Check.same(when + ": size(" + what + ")", x.size(what), due[what]);
        }
    }

    private static void passes(String text) {
        LatinRectangles x = new LatinRectangles();
        Check.same("parse of " + text, Texts.parse(x, text), 0);
        Check.same("errorPosition of " + text, x.errorPosition(), -1);
    }

    private static void fails(String text, int code, int position) {
        LatinRectangles x = new LatinRectangles();
        Check.same("parse of " + text, Texts.parse(x, text), code);
        Check.same("errorPosition of " + text, x.errorPosition(), position);
    }
}
