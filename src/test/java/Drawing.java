/**
 * Boards as they are drawn, in rows of text: a point is '+', a cell its number or a blank, an edge '-' or '|' if it is
 * a line, 'x' if it is a cross and a blank if it is unknown. So a board of one cell has three rows of three signs.
 */
final class Drawing {
    private interface Sign {
        char of(int edge);
    }

    private interface State {
        int of(int edge);
    }

    private Drawing() {
    }

    /** A new object with the board, the numbers and the marks that are drawn. */
    static SlitherFence fence(String... rows) {
        int width = rows[0].length() / 2;
        SlitherFence fence = Check.board(width, rows.length / 2);
        for (int row = 0; row < rows.length; row++) {
            for (int column = 0; column < rows[row].length(); column++) {
                char sign = rows[row].charAt(column);
                boolean isCell = row % 2 == 1 && column % 2 == 1;
                if (isCell && sign != ' ') {
                    fence.number(row / 2 * width + column / 2, sign - '0');
                } else if (row % 2 + column % 2 == 1 && sign != ' ') {
                    int edge = edgeAt(width, rows.length / 2, row, column);
                    fence.mark(edge, sign == 'x' ? SlitherFence.CROSS : SlitherFence.LINE);
                }
            }
        }
        return fence;
    }

    /** What follows, by promise 14. */
    static String follows(SlitherFence fence) {
        return states(fence, edge -> fence.follows(edge));
    }

    /** What is proved, by promise 23. */
    static String proved(SlitherFence fence) {
        return states(fence, edge -> fence.proved(edge));
    }

    /** The rounds, by promise 15, 10 and more as letters; a blank for NONE. */
    static String rounds(SlitherFence fence) {
        return draw(fence, edge -> digit(fence.roundOf(edge)));
    }

    /** The rules, by promise 16; a blank for NONE. */
    static String rules(SlitherFence fence) {
        return draw(fence, edge -> digit(fence.ruleOf(edge)));
    }

    /** An answer, by promise 21; its edges that are no lines are blanks. */
    static String answer(SlitherFence fence, int answer) {
        long set = fence.answer(answer);
        return states(fence, edge -> (set >> edge & 1L) == 1L ? SlitherFence.LINE : SlitherFence.UNKNOWN);
    }

    private static String states(SlitherFence fence, State state) {
        int horizontals = fence.cells() + widthOf(fence);
        return draw(fence, edge -> {
            switch (state.of(edge)) {
                case SlitherFence.LINE:
                    return edge < horizontals ? '-' : '|';
                case SlitherFence.CROSS:
                    return 'x';
                case SlitherFence.UNKNOWN:
                    return ' ';
                default:
                    return '?';
            }
        });
    }

    private static char digit(int number) {
        return number == SlitherFence.NONE ? ' ' : number >= 0 && number < 36 ? Character.forDigit(number, 36) : '?';
    }

    private static String draw(SlitherFence fence, Sign sign) {
        int width = widthOf(fence);
        int height = fence.cells() / width;
        StringBuilder text = new StringBuilder();
        for (int row = 0; row <= 2 * height; row++) {
            text.append(row > 0 ? "\n" : "");
            for (int column = 0; column <= 2 * width; column++) {
                boolean isEdge = row % 2 + column % 2 == 1;
                boolean isPoint = row % 2 + column % 2 == 0;
                text.append(isEdge ? sign.of(edgeAt(width, height, row, column)) : isPoint ? '+' : ' ');
            }
        }
        return text.toString();
    }

    private static int widthOf(SlitherFence fence) {
        return fence.edgeOf(0, 1);
    }

    private static int edgeAt(int width, int height, int row, int column) {
        if (row % 2 == 0) {
            return row / 2 * width + column / 2;
        }
        return width * (height + 1) + row / 2 * (width + 1) + column / 2;
    }
}
