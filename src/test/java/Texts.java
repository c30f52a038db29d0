/** Feeds texts to rectangles and reads their cells back. */
final class Texts {
    private Texts() {
    }

    /** Appends a text, filled up with blanks to a multiple of 20 bytes. */
    static void append(LatinRectangles x, String text) {
        for (int from = 0; from < text.length(); from += 20) {
            x.append(four(text, from), four(text, from + 4), four(text, from + 8), four(text, from + 12), four(text, from + 16));
        }
    }

    static int four(String text, int from) {
        int bytes = 0;
        for (int i = from; i < from + 4; i++) {
            bytes = bytes << 8 | (i < text.length() ? text.charAt(i) & 255 : ' ');
        }
        return bytes;
    }

    static int parse(LatinRectangles x, String text) {
        append(x, text);
        return x.parse(text.length());
    }

    static LatinRectangles of(String text) {
        LatinRectangles x = new LatinRectangles();
        Check.same("parse of " + text, parse(x, text), 0);
        return x;
    }

    /** A rectangle of this size, filled by fill with rows like "01.2"; a dot leaves a cell empty. */
    static LatinRectangles filled(String text, String... rows) {
        LatinRectangles x = of(text);
        for (int row = 0; row < rows.length; row++) {
            for (int column = 0; column < rows[row].length(); column++) {
                char sign = rows[row].charAt(column);
                if (sign != '.' && x.symbol(row, column) == LatinRectangles.NONE) {
                    x.fill(row, column, sign - '0');
                }
            }
        }
        return x;
    }

    /** Empties the cells of these rows and fills them anew. */
    static void refill(LatinRectangles x, String... rows) {
        for (int row = 0; row < rows.length; row++) {
            for (int column = 0; column < rows[row].length(); column++) {
                if (x.symbol(row, column) != LatinRectangles.NONE) {
                    x.empty(row, column);
                }
            }
        }
        for (int row = 0; row < rows.length; row++) {
            for (int column = 0; column < rows[row].length(); column++) {
                if (rows[row].charAt(column) != '.') {
                    x.fill(row, column, rows[row].charAt(column) - '0');
                }
            }
        }
    }

    static void hasRow(String what, LatinRectangles x, int row, String signs) {
        for (int column = 0; column < signs.length(); column++) {
            char sign = signs.charAt(column);
            int due = sign == '.' ? LatinRectangles.NONE : sign - '0';
            Check.same(what + ": symbol(" + row + ", " + column + ")", x.symbol(row, column), due);
        }
    }
}
