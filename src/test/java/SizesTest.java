/** The smallest board and the largest one, and the narrow ones: what each promise answers there. */
public final class SizesTest {
    private static final int NONE = SlitherFence.NONE;
    private static final int LINE = SlitherFence.LINE;
    private static final int CROSS = SlitherFence.CROSS;
    private static final int SOUND = SlitherFence.SOUND;

    public static void main(String[] args) {
        smallestBoard();
        smallestMarks();
        smallestRounds();
        smallestAnswers();
        largestBoard();
        largestMarks();
        largestRounds();
        largestAnswers();
        longestLoop();
        narrowBoards();
        Check.end();
    }

    private static void edgesOf(SlitherFence fence, int cell, int top, int bottom, int left, int right) {
        int[] want = {top, bottom, left, right};
        for (int side = 0; side < 4; side++) {
            Check.same("9 side " + side + " of cell " + cell, fence.edgeOf(cell, side), want[side]);
        }
    }

    private static void drawn(String what, String got, String... rows) {
        Check.same(what, got, String.join("\n", rows));
    }

    // ---- one cell

    private static void smallestBoard() {
        SlitherFence fence = Check.board(1, 1);
        Check.same("3 cells of one", fence.cells(), 1);
        Check.same("4 edges of one cell", fence.edges(), 4);
        edgesOf(fence, 0, 0, 1, 2, 3);
        for (int number = -1; number <= 3; number++) {
            Check.same("5 number of one cell", fence.number(0, number), number == -1 ? NONE : number - 1);
        }
        for (int edge = 0; edge < 4; edge++) {
            Check.same("6 mark of one cell", fence.mark(edge, LINE), SlitherFence.UNKNOWN);
        }
        fence.wipe();
        Check.same("7 wipe of one cell", fence.lines(), 0);
        Check.same("7 wipe leaves the number", fence.number(0, NONE), 3);
    }

    private static void smallestMarks() {
        SlitherFence fence = Drawing.fence("+-+", "   ", "+-+");
        Check.same("10 lines around one cell", fence.lines(), 2);
        Check.same("11 two ways", fence.ways(), 2);
        Check.same("13 no answer yet", fence.isAnswer(), false);
        fence.mark(2, LINE);
        Check.same("11 one way", fence.ways(), 1);
        Check.same("13 not closed yet", fence.isAnswer(), false);
        Check.same("12 not broken", fence.broken(), SOUND);
        fence.mark(3, LINE);
        Check.same("10 all lines", fence.lines(), 4);
        Check.same("11 a closed way", fence.ways(), 1);
        Check.same("13 closed", fence.isAnswer(), true);
        Check.same("12 closed", fence.broken(), SOUND);
        for (int number = 0; number <= 3; number++) {
            fence.number(0, number);
            Check.same("13 no number goes with four lines", fence.isAnswer(), false);
            Check.same("12 no number goes with four lines", fence.broken(), SlitherFence.CELL);
        }
    }

    private static void smallestRounds() {
        SlitherFence fence = Drawing.fence("+ +", " 0 ", "+ +");
        drawn("14 zero", Drawing.follows(fence), "+x+", "x x", "+x+");
        drawn("16 zero", Drawing.rules(fence), "+1+", "1 1", "+1+");
        Check.same("17 zero", fence.rounds(), 1);
        Check.same("18 zero", fence.end(), SOUND);
        Check.same("19 zero", fence.hint(), 0);
        Check.same("8 zero", fence.markAll(), 4);
        Check.same("19 nothing is left", fence.hint(), NONE);
        fence = Drawing.fence("+ +", " 3 ", "+ +");
        Check.same("17 three", fence.rounds(), 0);
        Check.same("18 three", fence.end(), SOUND);
        Check.same("19 three", fence.hint(), NONE);
        fence = Drawing.fence("+ +", "  |", "+ +");
        drawn("14 a line", Drawing.follows(fence), "+-+", "| |", "+-+");
        drawn("15 a line", Drawing.rounds(fence), "+1+", "1 0", "+1+");
        drawn("16 a line", Drawing.rules(fence), "+4+", "7  ", "+4+");
        fence.number(0, 2);
        drawn("14 a line around two", Drawing.follows(fence), "+-+", "| |", "+-+");
        Check.same("17 a line around two", fence.rounds(), 1);
        Check.same("18 a line around two", fence.end(), SlitherFence.CELL);
        Check.same("8 a line around two", fence.markAll(), 0);
    }

    private static void smallestAnswers() {
        SlitherFence fence = Check.board(1, 1);
        Check.same("20 one cell", fence.answers(), 1);
        Check.same("21 one cell", fence.answer(0), 15L);
        Check.same("22 one cell", fence.isInside(0, 0), true);
        drawn("23 one cell", Drawing.proved(fence), "+-+", "| |", "+-+");
        Check.same("24 one cell", fence.beyondRules(), 4);
        Check.same("25 one cell without a number", fence.isNeeded(0), false);
        for (int number = 0; number <= 3; number++) {
            fence.number(0, number);
            Check.same("20 one cell, number " + number, fence.answers(), 0);
            Check.same("25 one cell, number " + number, fence.isNeeded(0), true);
        }
        fence.mark(3, CROSS);
        Check.same("25 the mark leaves no answer either", fence.isNeeded(0), false);
        fence.number(0, NONE);
        Check.same("20 one cell, a cross", fence.answers(), 0);
    }

    // ---- 4 by 4 cells

    private static void largestBoard() {
        SlitherFence fence = Check.board(4, 4);
        Check.same("3 cells of the largest board", fence.cells(), 16);
        Check.same("4 edges of the largest board", fence.edges(), 40);
        edgesOf(fence, 0, 0, 4, 20, 21);
        edgesOf(fence, 3, 3, 7, 23, 24);
        edgesOf(fence, 4, 4, 8, 25, 26);
        edgesOf(fence, 12, 12, 16, 35, 36);
        edgesOf(fence, 15, 15, 19, 38, 39);
        for (int cell = 0; cell < 16; cell++) {
            Check.same("5 none yet", fence.number(cell, cell % 4), NONE);
        }
        for (int cell = 0; cell < 16; cell++) {
            Check.same("5 each has its own", fence.number(cell, NONE), cell % 4);
        }
        for (int edge = 0; edge < 40; edge++) {
            Check.same("6 none yet", fence.mark(edge, edge % 3), SlitherFence.UNKNOWN);
        }
        for (int edge = 0; edge < 40; edge++) {
            Check.same("6 each has its own", fence.mark(edge, LINE), edge % 3);
        }
        fence.wipe();
        for (int edge = 0; edge < 40; edge++) {
            Check.same("7 all are wiped", fence.mark(edge, CROSS), SlitherFence.UNKNOWN);
        }
    }

    private static void largestMarks() {
        SlitherFence fence = Check.board(4, 4);
        for (int edge = 0; edge < 40; edge++) {
            fence.mark(edge, LINE);
        }
        Check.same("10 all lines", fence.lines(), 40);
        Check.same("11 all lines", fence.ways(), 1);
        Check.same("12 all lines", fence.broken(), SlitherFence.POINT);
        Check.same("13 all lines", fence.isAnswer(), false);
        Check.same("18 all lines", fence.end(), SlitherFence.POINT);
        fence.number(15, 3);
        Check.same("12 all lines and a number", fence.broken(), SlitherFence.CELL);
        for (int edge = 0; edge < 40; edge++) {
            fence.mark(edge, CROSS);
        }
        Check.same("10 all crosses", fence.lines(), 0);
        Check.same("11 all crosses", fence.ways(), 0);
        Check.same("12 all crosses and a number", fence.broken(), SlitherFence.CELL);
        fence.number(15, 0);
        Check.same("12 all crosses", fence.broken(), SOUND);
        Check.same("13 all crosses", fence.isAnswer(), false);
        Check.same("18 all crosses", fence.end(), SOUND);
        Check.same("19 all crosses", fence.hint(), NONE);
        Check.same("8 all crosses", fence.markAll(), 0);
        // no two of these share a point, and one point is left: there can't be more ways
        fence.wipe();
        Check.markEach(fence, LINE, 20, 21, 22, 23, 24, 30, 31, 32, 33, 34, 16, 18);
        Check.same("11 most ways", fence.ways(), 12);
    }

    private static void largestRounds() {
        SlitherFence fence = Check.board(4, 4);
        fence.mark(39, LINE);
        Check.same("14 the last edge", fence.follows(39), LINE);
        Check.same("15 the last edge", fence.roundOf(39), 0);
        Check.same("16 the last edge", fence.ruleOf(39), NONE);
        Check.same("16 the bottom of the last cell", fence.ruleOf(19), 4);
        Check.same("17 the last corner", fence.rounds(), 1);
        Check.same("19 the last corner", fence.hint(), 19);
        Check.same("8 the last corner", fence.markAll(), 1);
        fence.wipe();
        fence.mark(19, LINE);
        Check.same("19 the last edge is wanted", fence.hint(), 39);
        fence.wipe();
        for (int cell = 0; cell < 16; cell++) {
            fence.number(cell, 0);
        }
        Check.same("17 zeros", fence.rounds(), 1);
        Check.same("8 zeros", fence.markAll(), 40);
        Check.same("18 zeros", fence.end(), SOUND);
        Check.same("20 zeros", fence.answers(), 0);
    }

    private static void largestAnswers() {
        SlitherFence fence = Check.board(4, 4);
        Check.same("20 the largest board", fence.answers(), 9349);
        drawn("21 the first answer", Drawing.answer(fence, 0), "+-+-+-+-+", "|       |", "+-+-+-+-+", "         ",
                "+ + + + +", "         ", "+ + + + +", "         ", "+ + + + +");
        drawn("21 the last answer", Drawing.answer(fence, 9348), "+ + + + +", "         ", "+ + + + +", "         ",
                "+ + + + +", "         ", "+ + + +-+", "      | |", "+ + + +-+");
        for (int cell = 0; cell < 16; cell++) {
            Check.same("22 the first answer, cell " + cell, fence.isInside(0, cell), cell < 4);
            Check.same("22 the last answer, cell " + cell, fence.isInside(9348, cell), cell == 15);
            Check.same("25 no number, cell " + cell, fence.isNeeded(cell), false);
        }
        for (int edge = 0; edge < 40; edge++) {
            Check.same("23 nothing is proved, edge " + edge, fence.proved(edge), SlitherFence.UNKNOWN);
        }
        Check.same("24 nothing is proved", fence.beyondRules(), 0);
        // the loop around the last cell is the only one that has its four edges
        Check.markEach(fence, LINE, 15, 19, 38, 39);
        Check.same("20 the last cell", fence.answers(), 1);
        Check.same("21 the last cell", fence.answer(0), Check.set(15, 19, 38, 39));
    }

    private static void longestLoop() {
        // it comes to all points but the one at the bottom right
        SlitherFence fence = Drawing.fence("+-+-+-+-+", "|       |", "+-+-+-+ +", "      | |", "+-+-+-+ +",
                "|       |", "+ +-+ +-+", "| | | |  ", "+-+ +-+ +");
        Check.same("10 the longest loop", fence.lines(), 24);
        Check.same("11 the longest loop", fence.ways(), 1);
        Check.same("12 the longest loop", fence.broken(), SOUND);
        Check.same("13 the longest loop", fence.isAnswer(), true);
        Check.same("17 the longest loop", fence.rounds(), 1);
        Check.same("16 the longest loop, the last edge", fence.ruleOf(39), 3);
        Check.same("8 the longest loop", fence.markAll(), 16);
        Check.same("10 the longest loop and crosses", fence.lines(), 24);
        Check.same("20 the longest loop", fence.answers(), 1);
    }

    // ---- one row, one column

    private static void narrowBoards() {
        SlitherFence flat = Check.board(4, 1);
        edgesOf(flat, 0, 0, 4, 8, 9);
        edgesOf(flat, 3, 3, 7, 11, 12);
        Check.same("20 flat", flat.answers(), 10);
        drawn("21 the first flat one", Drawing.answer(flat, 0), "+-+-+-+-+", "|       |", "+-+-+-+-+");
        drawn("21 the last flat one", Drawing.answer(flat, 9), "+ + + +-+", "      | |", "+ + + +-+");
        SlitherFence upright = Check.board(1, 4);
        edgesOf(upright, 0, 0, 1, 5, 6);
        edgesOf(upright, 3, 3, 4, 11, 12);
        Check.same("20 upright", upright.answers(), 10);
        // of the loops that have edge 0, the one of a single cell has edge 1, too, so it goes ahead of the higher ones
        drawn("21 the first upright one", Drawing.answer(upright, 0),
                "+-+", "| |", "+-+", "   ", "+ +", "   ", "+ +", "   ", "+ +");
        drawn("21 the second upright one", Drawing.answer(upright, 1),
                "+-+", "| |", "+ +", "| |", "+-+", "   ", "+ +", "   ", "+ +");
        drawn("21 the last upright one", Drawing.answer(upright, 9),
                "+ +", "   ", "+ +", "   ", "+ +", "   ", "+-+", "| |", "+-+");
    }
}
