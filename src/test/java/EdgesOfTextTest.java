/** The boundary cases of the rectangle text and of promises 1 to 5: a method for each sentence that names one. */
public final class EdgesOfTextTest {
    private static final String GIVENS = "given0 0 0;given0 1 1;given0 2 2;given0 3 3;given0 4 4;"
        + "given1 0 1;given1 1 2;given1 2 3;given1 3 4;given1 4 0;given2 0 2;given2 1 3;given2 2 4;given2 3 0;given2 4 1;"
        + "given3 0 3;given3 1 4;given3 2 0;given3 3 1;given3 4 2;given4 0 4;given4 1 0;given4 2 1;given4 3 2;given4 4 3;";

    public static void main(String[] args) {
        textIsAtMost500Bytes();
        separators();
        separatorsAreIgnored();
        wordsHave1To9Letters();
        numbersHave1To2Digits();
        otherBytesAreInvalid();
        textEndsTooEarly();
        tokensInPlace();
        columnsAndRows();
        rowsColumnsAndSymbols();
        atMost20Bans();
        givenClashes();
        banClashes();
        numberOutOfItsRange();
        wordOfThe21stBan();
        smallestPosition();
        smallestCode();
        positionOfTheError();
        newObject();
        newLengthOfTheBuffer();
        nothingAppendedBeyond500();
        mostSignificantByteFirst();
        firstBytesAlone();
        successReplaces();
        errorChangesNothing();
        bufferIsEmptyThen();
        lengthOutOfRange();
        positionOfTheLastParse();
        noneIfThatCallSucceeded();
        leastSizes();
        greatestSizes();
        whatOfSizeOutOfRange();
        Check.end();
    }

    private static void textIsAtMost500Bytes() {
        Check.sentence("A rectangle is described by a text of at most 500 bytes.");
        String head = "rectangle 2 3";
        passes(head + " ".repeat(499 - head.length()) + ";");
        fails(head + " ".repeat(500 - head.length()), 1, 500);
        fails(" ".repeat(499) + ";", 1, 499);
        fails(" ".repeat(500), 1, 500);
        fails("\n".repeat(500), 1, 500);
        fails("r".repeat(500), 1, 0);
        fails("1".repeat(500), 1, 0);
        fails(";".repeat(500), 1, 0);
        fails("rectangle 2 3;" + ";".repeat(486), 1, 14);
        // the most statements that there can be: all cells given, and 20 bans
        StringBuilder most = new StringBuilder("rectangle 5 5;").append(GIVENS);
        for (int i = 0; i < 20; i++) {
            most.append("ban").append(i / 5).append(' ').append(i % 5).append(' ').append((i / 5 + i % 5 + 1) % 5).append(';');
        }
        LatinRectangles x = passes(most.append(" ".repeat(500 - most.length())).toString());
        hasSizes("the most statements", x, 5, 5, 25, 25, 20, 0, 5);
    }

    private static void separators() {
        Check.sentence("Spaces (byte 32) and line feeds (byte 10) separate tokens and are otherwise ignored.");
        for (int sign = 0; sign < 256; sign++) {
            String text = "rectangle 2" + (char) sign + "3;";
            if (sign == 32 || sign == 10) {
                passes(text);
            } else if (sign >= '0' && sign <= '9') {
                fails(text, 1, 10);
            } else {
                fails(text, 1, 11);
            }
        }
        fails("rectangle 23;", 3, 10);
        fails("rect angle 2 3;", 1, 0);
        fails("rectangle 2 3;giv en 0 0 0;", 1, 14);
        fails("rectangle 2 3;given 0 00;", 1, 24);
    }

    private static void separatorsAreIgnored() {
        Check.sentence("Spaces (byte 32) and line feeds (byte 10) separate tokens and are otherwise ignored.");
        passes(" rectangle 2 3;");
        passes("\nrectangle 2 3;");
        passes("rectangle 2 3;\n");
        passes("rectangle 2 3; ");
        passes("rectangle2 3;");
        passes("\n \nrectangle\n\n2  3 \n;\n\n given \n0\n1\n2\n;\n ");
        LatinRectangles x = passes("rectangle2 3;given0 1 2;ban1 1 0;");
        Check.same("symbol(0, 1)", x.symbol(0, 1), 2);
        Check.same("candidates(1, 1)", x.candidates(1, 1), 2);
    }

    private static void wordsHave1To9Letters() {
        Check.sentence("a word (a maximal run of letters a to z, 1 to 9 letters)");
        passes("rectangle 2 3;");
        fails("rectanglee 2 3;", 1, 0);
        fails("rrectangle 2 3;", 1, 0);
        fails("rectangl 2 3;", 1, 0);
        fails("r 2 3;", 1, 0);
        fails("rectangle 2 3;g 0 0 0;", 1, 14);
        fails("rectangle 2 3;giveng 0 0 0;", 1, 14);
        fails("rectangle 2 3;bann 0 0 0;", 1, 14);
        fails("rectangle 2 3;ba 0 0 0;", 1, 14);
        fails("rectangle 2 3;a 0 0 0;", 1, 14);
        fails("rectangle 2 3;z 0 0 0;", 1, 14);
        fails("rectangle 2 3;aaaaaaaaaa 0 0 0;", 1, 14);
        fails("rectangle 2 3;bangiven 0 0 0;", 1, 14);
        fails("rectangle 2 3;zban 0 0 0;", 1, 14);
        fails("rectangle 2 3;banz 0 0 0;", 1, 14);
        // the signs beside a and z end a word, and are wrong themselves
        fails("rectangle` 2 3;", 1, 9);
        fails("rectangle{ 2 3;", 1, 9);
        fails("rectangleA 2 3;", 1, 9);
    }

    private static void numbersHave1To2Digits() {
        Check.sentence("a number (a maximal run of digits, 1 to 2 digits)");
        LatinRectangles x = passes("rectangle 02 03;given 00 01 02;ban 01 02 00;");
        Check.same("rows", x.size(0), 2);
        Check.same("columns", x.size(1), 3);
        Check.same("symbol(0, 1)", x.symbol(0, 1), 2);
        Check.same("candidates(1, 2)", x.candidates(1, 2), 6);
        fails("rectangle 002 3;", 1, 10);
        fails("rectangle 2 003;", 1, 12);
        fails("rectangle 2 3;given 000 0 0;", 1, 20);
        fails("rectangle 2 3;given 0 000 0;", 1, 22);
        fails("rectangle 2 3;given 0 0 000;", 1, 24);
        fails("rectangle 2 3;ban 000 0 0;", 1, 18);
        fails("rectangle 10 3;", 3, 10);
        fails("rectangle 9 3;", 3, 10);
        fails("rectangle 2 99;", 3, 12);
        fails("rectangle 2 30;", 3, 12);
    }

    private static void otherBytesAreInvalid() {
        Check.sentence("A longer run, and any other byte, is an invalid token.");
        for (int sign = 0; sign < 256; sign++) {
            boolean blank = sign == 32 || sign == 10;
            String text = "rectangle 2 3;" + (char) sign;
            if (blank) {
                passes(text);
            } else {
                fails(text, 1, 14);
            }
            fails((char) sign + "rectangl 2 3;", 1, blank ? 1 : 0);
        }
        fails("rectangle 2 3;given 0 0 99999999999;", 1, 24);
        fails("rectangle 4294967298 3;", 1, 10);
    }

    private static void textEndsTooEarly() {
        Check.sentence("a text that ends too early [..] if the text ends too early, it is the length of the text.");
        String text = "rectangle 2 3;given 0 1 2;ban 1 1 0;";
        for (int length = 0; length <= text.length(); length++) {
            String cut = text.substring(0, length);
            if (length == 14 || length == 26 || length == 36) {
                passes(cut);
            } else {
                // a word that is cut is another word, and wrong at its first byte
                boolean inWord = length > 0 && length < 9 || length > 14 && length < 19 || length > 26 && length < 29;
                fails(cut, 1, !inWord ? length : length < 9 ? 0 : length < 19 ? 14 : 26);
            }
        }
        fails("", 1, 0);
        fails(" ", 1, 1);
        fails("rectangle 2 3 \n ", 1, 16);
        fails("rectangle 2 3;ban 1 1 0 ", 1, 24);
    }

    private static void tokensInPlace() {
        Check.sentence("a token that the grammar does not allow at this place");
        String[] good = {"rectangle", " ", "2", " ", "3", ";", "given", " ", "0", " ", "1", " ", "2", ";", "ban", " ", "1", " ", "1",
            " ", "0", ";"};
        String[] tokens = {"rectangle", "given", "ban", "other", "2", ";"};
        for (int at = 0; at < good.length; at++) {
            for (String token : tokens) {
                boolean word = Character.isLetter(good[at].charAt(0));
                boolean number = Character.isDigit(good[at].charAt(0));
                boolean allowed = good[at].equals(token) || number && token.equals("2")
                    || at == 6 && token.equals("ban") || at == 14 && token.equals("given");
                if ((word || number || good[at].equals(";")) && !allowed) {
                    String before = String.join("", java.util.Arrays.copyOf(good, at)) + " ";
                    String after = String.join("", java.util.Arrays.copyOfRange(good, at + 1, good.length));
                    fails(before + token + " " + after, 1, before.length());
                }
            }
        }
        fails("rectangle 2 3;;", 1, 14);
        fails("rectangle 2 3 3;", 1, 14);
        fails("rectangle 2 3;given 0 1 2;;", 1, 26);
    }

    private static void columnsAndRows() {
        Check.sentence("columns is 2 to 5, rows 1 to columns (rows stands ahead of columns in the text and is 1 to 5 there).");
        for (int rows = 0; rows < 100; rows++) {
            for (int columns = 0; columns < 100; columns++) {
                String text = "rectangle " + rows + " " + columns + ";";
                if (rows < 1 || rows > 5) {
                    fails(text, 3, 10);
                } else if (columns < 2 || columns > 5 || columns < rows) {
                    fails(text, 3, 12);
                } else {
                    LatinRectangles x = passes(text);
                    hasSizes(text, x, rows, columns, 0, 0, 0, 0, 0);
                }
            }
        }
    }

    private static void rowsColumnsAndSymbols() {
        Check.sentence("row is 0 to rows minus 1, column 0 to columns minus 1, symbol 0 to columns minus 1");
        for (int columns = 2; columns <= 5; columns++) {
            for (int rows = 1; rows <= columns; rows++) {
                numbersOfStatements(rows, columns, "given");
                numbersOfStatements(rows, columns, "ban");
            }
        }
    }

    private static void numbersOfStatements(int rows, int columns, String word) {
        String start = "rectangle " + rows + " " + columns + ";" + word + " ";
        int[] numbers = {0, 1, 2, 3, 4, 5, 6, 10, 32, 99};
        for (int row : numbers) {
            for (int column : numbers) {
                for (int symbol : numbers) {
                    String text = start + row + " " + column + " " + symbol + ";";
                    if (row >= rows) {
                        fails(text, 3, start.length());
                    } else if (column >= columns) {
                        fails(text, 3, start.length() + 2);
                    } else if (symbol >= columns) {
                        fails(text, 3, start.length() + 4);
                    } else {
                        passes(text);
                    }
                }
            }
        }
    }

    private static void atMost20Bans() {
        Check.sentence("At most 20 bans are possible.");
        Check.same("no ban", passes(bans(0)).size(4), 0);
        Check.same("19 bans", passes(bans(19)).size(4), 19);
        LatinRectangles x = passes(bans(20));
        Check.same("20 bans", x.size(4), 20);
        Check.same("the first ban", x.candidates(0, 0), 30);
        Check.same("the 20th ban", x.candidates(3, 4), 30);
        Check.same("without a ban", x.candidates(4, 4), 31);
        fails(bans(21), 4, bans(20).length());
        // the bans of a text that is wrong do not count for the next one
        LatinRectangles again = new LatinRectangles();
        Check.same("21 bans", Texts.parse(again, bans(21)), 4);
        Check.same("20 bans behind it", Texts.parse(again, bans(20)), 0);
        Check.same("20 bans once more", Texts.parse(again, bans(20)), 0);
        Check.same("20 bans", again.size(4), 20);
    }

    private static String bans(int number) {
        StringBuilder text = new StringBuilder("rectangle 5 5;");
        for (int i = 0; i < number; i++) {
            text.append("ban ").append(i / 5).append(' ').append(i % 5).append(" 0;");
        }
        return text.toString();
    }

    private static void givenClashes() {
        Check.sentence("2: the symbol of given, if the cell is filled already, the symbol is in its row or column already,"
            + " or an earlier ban forbids it there");
        String start = "rectangle 5 5;given 2 2 2;";
        int at = start.length();
        for (int symbol = 0; symbol < 5; symbol++) {
            fails(start + "given 2 2 " + symbol + ";", 2, at + 10);
        }
        for (int line = 0; line < 5; line++) {
            if (line != 2) {
                fails(start + "given 2 " + line + " 2;", 2, at + 10);
                fails(start + "given " + line + " 2 2;", 2, at + 10);
                passes(start + "given " + line + " " + line + " 2;");
                passes(start + "given 2 " + line + " 1;");
                passes(start + "given " + line + " 2 1;");
            }
        }
        fails("rectangle 5 5;ban 4 4 4;given 4 4 4;", 2, 34);
        fails("rectangle 5 5;ban 0 0 0;given 0 0 0;", 2, 34);
        passes("rectangle 5 5;ban 4 4 4;given 4 4 3;");
        passes("rectangle 5 5;ban 4 4 4;given 4 3 4;");
        passes("rectangle 5 5;ban 4 4 4;given 3 4 4;");
        // a symbol in the row or column may be banned there, and a cell may get all its other symbols banned
        passes("rectangle 2 2;ban 0 0 0;given 0 0 1;ban 1 0 1;");
    }

    private static void banClashes() {
        Check.sentence("the symbol of ban, if an earlier ban forbids it there already, or the cell is filled with it");
        fails("rectangle 5 5;ban 4 4 4;ban 4 4 4;", 2, 32);
        fails("rectangle 5 5;ban 0 0 0;ban 4 4 4;ban 0 0 0;", 2, 42);
        passes("rectangle 5 5;ban 4 4 4;ban 4 4 3;ban 4 3 4;ban 3 4 4;");
        fails("rectangle 5 5;given 4 4 4;ban 4 4 4;", 2, 34);
        fails("rectangle 5 5;given 0 0 0;ban 0 0 0;", 2, 34);
        passes("rectangle 5 5;given 4 4 4;ban 4 4 0;ban 4 0 4;ban 0 4 4;");
        LatinRectangles x = passes("rectangle 1 2;ban 0 0 0;ban 0 0 1;ban 0 1 0;ban 0 1 1;");
        hasSizes("all symbols banned", x, 1, 2, 0, 0, 4, 2, 0);
    }

    private static void numberOutOfItsRange() {
        Check.sentence("3: a number out of its range; columns less than rows.");
        fails("rectangle 0 0;", 3, 10);
        fails("rectangle 6 2;", 3, 10);
        fails("rectangle 5 1;", 3, 12);
        for (int rows = 3; rows <= 5; rows++) {
            fails("rectangle " + rows + " " + (rows - 1) + ";", 3, 12);
            passes("rectangle " + rows + " " + rows + ";");
        }
        // wrong at once, whatever stands behind the number, or nothing
        fails("rectangle 0", 3, 10);
        fails("rectangle 2 1", 3, 12);
        fails("rectangle 2 3;given 2", 3, 20);
        fails("rectangle 2 3;given 0 3", 3, 22);
        fails("rectangle 2 3;given 0 0 3", 3, 24);
    }

    private static void wordOfThe21stBan() {
        Check.sentence("4: the word ban of a 21st one.");
        int at = bans(20).length();
        fails(bans(20) + "ban", 4, at);
        fails(bans(20) + "ban 0 0 0;", 4, at);
        fails(bans(20) + "ban;", 4, at);
        fails(bans(20) + "\n ban 9 9 9;", 4, at + 2);
        fails(bans(20) + "ba 0 0 0;", 1, at);
        fails(bans(20) + "banban 0 0 0;", 1, at);
        fails(bans(20) + "given 0 0 1;ban 0 0 4;", 4, at + 12);
        passes(bans(20) + "given 0 0 1;");
        // the 20th is told by its own errors
        fails(bans(19) + "ban 0 0 0;", 2, bans(19).length() + 8);
        fails(bans(19) + "ban 0 0 5;", 3, bans(19).length() + 8);
    }

    private static void smallestPosition() {
        Check.sentence("The error with the smallest position is reported.");
        fails("rectangle 6 9;given 9 9 9;", 3, 10);
        fails("rectangle 2 3;given 0 0 0;given 0 0 1;given 2 0 0;?", 2, 36);
        fails("rectangle 2 3;given 2 0 0;given 0 0 0;given 0 0 1;", 3, 20);
        fails("rectangle 2 3;given 0 0 0?given 2 0 0;", 1, 25);
        fails("rectangle 2 3;given 0 0 3?", 3, 24);
        fails("rectangle 2 3;given 0 3 3;", 3, 22);
        fails("rectangle 2 3;given 2 3 3;", 3, 20);
        fails(bans(20) + "ban 0 0 0;?", 4, bans(20).length());
        fails("?" + bans(21), 1, 0);
    }

    private static void smallestCode() {
        Check.sentence("If several codes apply at one position, the smallest is reported.");
        fails("rectangle 2 3;given 0 0 0;given 0 0 3;", 2, 36);
        fails("rectangle 2 3;given 0 0 0;given 0 0 99;", 2, 36);
        fails("rectangle 2 3;given 0 0 0;given 0 0 000;", 1, 36);
        fails("rectangle 2 3;given 0 0 0;given 0 1 3;", 3, 36);
        fails("rectangle 2 3;given 0 0 0;ban 0 0 3;", 3, 34);
        fails("rectangle 2 3;ban 0 0 0;ban 0 0 3;", 3, 32);
        // both the filled cell and the row say 2
        fails("rectangle 2 3;given 0 0 0;given 0 0 0;", 2, 36);
    }

    private static void positionOfTheError() {
        Check.sentence("The position of an error is the index of the first byte of its token");
        fails("rectangle \n 9 3;", 3, 12);
        fails("rectangle 2  10;", 3, 13);
        fails("rectangle 2 3;  given 0 0\n03;", 3, 26);
        fails("rectangle 2 3;given 0 0 0;  given 0 0 00;", 2, 38);
        fails("  abcdefghijkl", 1, 2);
        fails(" \n;", 1, 2);
    }

    private static void newObject() {
        Check.sentence("Creates an empty rectangle with 2 rows and 2 columns, without bans, with an empty input buffer.");
        hasSizes("a new object", new LatinRectangles(), 2, 2, 0, 0, 0, 0, 0);
        LatinRectangles x = new LatinRectangles();
        for (int row = 0; row < 2; row++) {
            for (int column = 0; column < 2; column++) {
                Check.same("symbol", x.symbol(row, column), -1);
                Check.isFalse("isGiven", x.isGiven(row, column));
                Check.same("candidates", x.candidates(row, column), 3);
            }
        }
        Check.throwsBounds("row 2", () -> x.symbol(2, 0));
        Check.throwsBounds("column 2", () -> x.symbol(0, 2));
        Check.throwsArgument("parse(1)", () -> x.parse(1));
        Check.same("parse(0)", x.parse(0), 1);
        Check.same("append", new LatinRectangles().append(0, 0, 0, 0, 0), 20);
        // objects have nothing in common
        LatinRectangles other = new LatinRectangles();
        x.fill(0, 0, 0);
        x.append(0, 0, 0, 0, 0);
        Check.same("another object's cell", other.symbol(0, 0), -1);
        Check.throwsArgument("another object's buffer", () -> other.parse(1));
    }

    private static void newLengthOfTheBuffer() {
        Check.sentence("Returns the new length of the buffer");
        LatinRectangles x = new LatinRectangles();
        for (int length = 20; length <= 500; length += 20) {
            Check.same("append", x.append(Integer.MIN_VALUE, Integer.MAX_VALUE, -1, 0, 1), length);
        }
    }

    private static void nothingAppendedBeyond500() {
        Check.sentence("NONE, with nothing appended, if it would exceed 500.");
        LatinRectangles x = new LatinRectangles();
        String text = "rectangle 2 3;";
        Texts.append(x, " ".repeat(486) + text);
        for (int n = 0; n < 3; n++) {
            Check.same("append", x.append(-1, -1, -1, -1, -1), -1);
            Check.throwsArgument("parse(501)", () -> x.parse(501));
            Check.throwsArgument("parse(520)", () -> x.parse(520));
        }
        Check.same("the 500 bytes as they were", x.parse(500), 0);
        Check.same("columns", x.size(1), 3);
        Check.same("append to an empty buffer", x.append(-1, -1, -1, -1, -1), 20);
    }

    private static void mostSignificantByteFirst() {
        Check.sentence("the four bytes of each argument, the most significant byte first.");
        for (int at = 0; at < 20; at++) {
            for (int sign : new int[] {0, 127, 128, 255, 31, 33, 9, 11}) {
                int[] four = {0x20202020, 0x20202020, 0x20202020, 0x20202020, 0x20202020};
                int shift = 24 - at % 4 * 8;
                four[at / 4] = four[at / 4] & ~(255 << shift) | sign << shift;
                LatinRectangles x = new LatinRectangles();
                x.append(four[0], four[1], four[2], four[3], four[4]);
                Check.same("parse of byte " + sign + " at " + at, x.parse(20), 1);
                Check.same("errorPosition of byte " + sign + " at " + at, x.errorPosition(), at);
            }
        }
        LatinRectangles x = new LatinRectangles();
        // "rect" "angl" "e 2 " "3;\n " " \n\n\n"
        x.append(0x72656374, 0x616e676c, 0x65203220, 0x333b0a20, 0x200a0a0a);
        Check.same("parse", x.parse(20), 0);
    }

    private static void firstBytesAlone() {
        Check.sentence("Parses the first length bytes of the input buffer as a rectangle text.");
        String text = "rectangle 2 3;given 0 0 0;?";
        for (int length : new int[] {14, 26}) {
            LatinRectangles x = new LatinRectangles();
            Texts.append(x, text);
            Check.same("parse(" + length + ")", x.parse(length), 0);
            Check.same("given cells", x.size(3), length == 14 ? 0 : 1);
        }
        LatinRectangles whole = new LatinRectangles();
        Texts.append(whole, text);
        Check.same("parse(27)", whole.parse(27), 1);
        Check.same("errorPosition", whole.errorPosition(), 26);
        // a run that is longer in the buffer is as long as the first bytes leave it
        LatinRectangles cut = new LatinRectangles();
        Texts.append(cut, "rectangleee 2 3;");
        Check.same("parse(9)", cut.parse(9), 1);
        Check.same("a word of 9 letters, then the end", cut.errorPosition(), 9);
        Texts.append(cut, "rectangle 222 3;");
        Check.same("parse(11)", cut.parse(11), 1);
        Check.same("a number of one digit, then the end", cut.errorPosition(), 11);
        Texts.append(cut, "rectangle 2 3;  ");
        Check.same("parse(0)", cut.parse(0), 1);
        Check.same("no byte", cut.errorPosition(), 0);
        // the bytes of an earlier text are gone
        Texts.append(cut, "rectangle 4 5;given 4 5 6;");
        cut.parse(14);
        Texts.append(cut, "rectangle 2 3;");
        Check.same("parse(20)", cut.parse(20), 0);
        hasSizes("the second text", cut, 2, 3, 0, 0, 0, 0, 0);
    }

    private static void successReplaces() {
        Check.sentence("On success the described rectangle replaces the current one.");
        LatinRectangles x = passes("rectangle 5 5;" + GIVENS);
        Check.same("a smaller one", Texts.parse(x, "rectangle 1 2;"), 0);
        hasSizes("a smaller one", x, 1, 2, 0, 0, 0, 0, 0);
        Check.throwsBounds("the second row is gone", () -> x.symbol(1, 0));
        Check.throwsBounds("the third column is gone", () -> x.symbol(0, 2));
        Check.isFalse("isGiven", x.isGiven(0, 0));
        Check.same("uses of a symbol that is gone", x.uses(4), 0);
        Check.same("a greater one", Texts.parse(x, "rectangle 5 5;ban 4 4 4;"), 0);
        hasSizes("a greater one", x, 5, 5, 0, 0, 1, 0, 0);
        Check.same("candidates(0, 0)", x.candidates(0, 0), 31);
        Check.same("candidates(4, 4)", x.candidates(4, 4), 15);
        Check.isFalse("isGiven(4, 4)", x.isGiven(4, 4));
    }

    private static void errorChangesNothing() {
        Check.sentence("On a parse error nothing changes except that the buffer is emptied");
        String[] texts = {"", "rectangle 5 5;?", "rectangle 5 5;given 0 0 0;given 0 0 1;", "rectangle 4 3;",
            "rectangle 5 5;ban 0 0 0;ban 0 0 0;", bans(21), "rectangle 1 2;given 0 0 1;given 0 2 0;"};
        for (String text : texts) {
            LatinRectangles x = passes("rectangle 2 3;given 0 0 0;ban 1 1 1;");
            x.fill(0, 1, 1);
            x.saveSnapshot(0);
            x.fill(0, 2, 2);
            x.saveSnapshot(1);
            x.fill(1, 0, 1);
            Check.isTrue("an error: " + text, Texts.parse(x, text) != 0);
            hasSizes("behind " + text, x, 2, 3, 4, 1, 1, 0, 1);
            Texts.hasRow("behind " + text, x, 0, "012");
            Texts.hasRow("behind " + text, x, 1, "1..");
            Check.isTrue("isGiven(0, 0)", x.isGiven(0, 0));
            Check.same("candidates(1, 1)", x.candidates(1, 1), 5);
            Check.same("slot 0", x.tradeSize(0), 2);
            Check.same("slot 1", x.tradeSize(1), 1);
            Check.same("undo", x.undo(), 2);
            Check.same("undo", x.undo(), 1);
            Check.same("undo", x.undo(), 0);
            Check.same("undo", x.undo(), -1);
        }
    }

    private static void bufferIsEmptyThen() {
        Check.sentence("the buffer is emptied; it is also empty after a success.");
        for (String text : new String[] {"rectangle 2 3;", "rectangle 2 3;?", "?"}) {
            LatinRectangles x = new LatinRectangles();
            Texts.append(x, text + " ".repeat(500 - text.length()));
            x.parse(text.length());
            Check.throwsArgument("parse(1) behind " + text, () -> x.parse(1));
            Check.same("append behind " + text, x.append(0x20202020, 0x20202020, 0x20202020, 0x20202020, 0x20202020), 20);
            Check.same("parse behind " + text, x.parse(20), 1);
            Check.same("errorPosition behind " + text, x.errorPosition(), 20);
        }
    }

    private static void lengthOutOfRange() {
        Check.sentence("IllegalArgumentException if length is out of range");
        LatinRectangles x = new LatinRectangles();
        int[] never = {-1, -20, Integer.MIN_VALUE, Integer.MAX_VALUE, 501};
        for (int buffer = 0; buffer <= 500; buffer += 20) {
            for (int length : never) {
                Check.throwsArgument("parse(" + length + ") of " + buffer, () -> x.parse(length));
            }
            int beyond = buffer + 1;
            Check.throwsArgument("parse(" + beyond + ")", () -> x.parse(beyond));
            if (buffer < 500) {
                Check.same("the buffer as it was", x.append(0x20202020, 0x20202020, 0x20202020, 0x20202020, 0x20202020), buffer + 20);
            }
        }
        Check.same("parse of the whole buffer", x.parse(500), 1);
        Check.same("errorPosition", x.errorPosition(), 500);
    }

    private static void positionOfTheLastParse() {
        Check.sentence("Returns the position of the parse error of the last call of parse that did not throw an exception.");
        LatinRectangles x = new LatinRectangles();
        Check.same("parse", Texts.parse(x, "rectangle 2 9;"), 3);
        Check.same("an error", x.errorPosition(), 12);
        Check.throwsArgument("parse(-1)", () -> x.parse(-1));
        Check.same("behind one that threw", x.errorPosition(), 12);
        Check.same("parse", Texts.parse(x, "?"), 1);
        Check.same("another error", x.errorPosition(), 0);
        x.fill(0, 0, 0);
        x.undo();
        Check.throwsBounds("symbol(9, 9)", () -> x.symbol(9, 9));
        Check.same("behind other calls", x.errorPosition(), 0);
    }

    private static void noneIfThatCallSucceeded() {
        Check.sentence("NONE if that call succeeded or there was none.");
        LatinRectangles x = new LatinRectangles();
        Check.same("no call", x.errorPosition(), -1);
        Check.throwsArgument("parse(1)", () -> x.parse(1));
        Check.same("no call but one that threw", x.errorPosition(), -1);
        Texts.parse(x, "?");
        Texts.parse(x, "rectangle 2 3;");
        Check.same("a success behind an error", x.errorPosition(), -1);
        Check.throwsArgument("parse(1)", () -> x.parse(1));
        Check.same("behind one that threw", x.errorPosition(), -1);
    }

    private static void leastSizes() {
        Check.sentence("0 rows, 1 columns, 2 filled cells, 3 given cells, 4 bans, 5 empty cells without candidates, 6 full rows");
        hasSizes("the least rectangle", passes("rectangle 1 2;"), 1, 2, 0, 0, 0, 0, 0);
        hasSizes("one cell filled", Texts.filled("rectangle 1 2;", "0."), 1, 2, 1, 0, 0, 0, 0);
        hasSizes("full", Texts.filled("rectangle 1 2;", "01"), 1, 2, 2, 0, 0, 0, 1);
        // a filled cell is no empty cell without candidates
        hasSizes("full by given", passes("rectangle 1 2;given 0 0 0;given 0 1 1;"), 1, 2, 2, 2, 0, 0, 1);
        hasSizes("the last cell dead", passes("rectangle 1 2;given 0 0 0;ban 0 1 1;"), 1, 2, 1, 1, 1, 1, 0);
    }

    private static void greatestSizes() {
        Check.sentence("0 rows, 1 columns, 2 filled cells, 3 given cells, 4 bans, 5 empty cells without candidates, 6 full rows");
        hasSizes("the greatest", passes("rectangle 5 5;" + GIVENS), 5, 5, 25, 25, 0, 0, 5);
        // 0 to 3 stand in each cell's row or column; 4 is banned
        hasSizes("dead cells", Texts.filled("rectangle 5 5;ban 0 0 4;ban 1 1 4;", "..01.", "..10.", "23...", "32..."),
            5, 5, 8, 0, 2, 2, 0);
        LatinRectangles dead = passes("rectangle 1 5;ban 0 0 0;ban 0 0 1;ban 0 0 2;ban 0 0 3;ban 0 0 4;"
            + "ban 0 4 0;ban 0 4 1;ban 0 4 2;ban 0 4 3;ban 0 4 4;");
        hasSizes("the first and the last cell dead", dead, 1, 5, 0, 0, 10, 2, 0);
        LatinRectangles x = Texts.filled("rectangle 5 5;", "01234", "12340", "23401", "34012", "4012.");
        hasSizes("one cell left", x, 5, 5, 24, 0, 0, 0, 4);
        x.fill(4, 4, 3);
        hasSizes("full", x, 5, 5, 25, 0, 0, 0, 5);
        x.empty(0, 0);
        hasSizes("not full any more", x, 5, 5, 24, 0, 0, 0, 4);
    }

    private static void whatOfSizeOutOfRange() {
        Check.sentence("IllegalArgumentException if what is out of range");
        LatinRectangles x = new LatinRectangles();
        for (int what : new int[] {-1, 7, 8, Integer.MIN_VALUE, Integer.MAX_VALUE}) {
            Check.throwsArgument("size(" + what + ")", () -> x.size(what));
        }
        Check.same("size(0)", x.size(0), 2);
        Check.same("size(6)", x.size(6), 0);
    }

    private static void hasSizes(String when, LatinRectangles x, int... due) {
        for (int what = 0; what < due.length; what++) {
            Check.same(when + ": size(" + what + ")", x.size(what), due[what]);
        }
    }

    private static LatinRectangles passes(String text) {
        LatinRectangles x = new LatinRectangles();
        Check.same("parse of " + text, Texts.parse(x, text), 0);
        Check.same("errorPosition of " + text, x.errorPosition(), -1);
        return x;
    }

    private static void fails(String text, int code, int position) {
        LatinRectangles x = new LatinRectangles();
        Check.same("parse of " + text, Texts.parse(x, text), code);
        Check.same("errorPosition of " + text, x.errorPosition(), position);
    }
}
