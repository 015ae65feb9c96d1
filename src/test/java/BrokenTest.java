/**
 * Promise 12, and the term that a state is broken: each reason with what just is and what just is not a case of it, and
 * each two reasons that apply together. `broken` tells it of the marks, `end` and `hint` go by it.
 */
public final class BrokenTest {
    private static final int SOUND = SlitherFence.SOUND;
    private static final int CELL = SlitherFence.CELL;
    private static final int POINT = SlitherFence.POINT;
    private static final int LOOP = SlitherFence.LOOP;
    private static final int COLOUR = SlitherFence.COLOUR;

    public static void main(String[] args) {
        cellHasMoreLines();
        cellHasTooFew();
        cellOfAnyPlace();
        pointOfTwoEdges();
        pointOfThreeEdges();
        pointOfFourEdges();
        loopAndAnotherLine();
        loopAndNumbers();
        colourOfTwoAreas();
        colourOfMoreAreas();
        theFirstReason();
        Check.end();
    }

    private static void is(int reason, String... rows) {
        String name = String.join("/", rows);
        SlitherFence fence = Drawing.fence(rows);
        Check.same("12 broken " + name, fence.broken(), reason);
        if (reason != SOUND) {
            Check.same("17 rounds of broken " + name, fence.rounds(), 0);
            Check.same("18 end of broken " + name, fence.end(), reason);
            Check.same("19 hint of broken " + name, fence.hint(), SlitherFence.NONE);
            Check.same("8 markAll of broken " + name, fence.markAll(), 0);
            Check.same("20 answers of broken " + name, fence.answers(), 0);
            Check.same("12 still broken " + name, fence.broken(), reason);
        }
    }

    private static void cellHasMoreLines() {
        is(SOUND, "+ + + +", "       ", "+ + + +", "   0   ", "+ + + +", "       ", "+ + + +");
        is(CELL, "+ + + +", "       ", "+ +-+ +", "   0   ", "+ + + +", "       ", "+ + + +");
        is(SOUND, "+ + + +", "       ", "+ +-+ +", "   1   ", "+ + + +", "       ", "+ + + +");
        is(CELL, "+ + + +", "       ", "+ +-+ +", "   1   ", "+ +-+ +", "       ", "+ + + +");
        is(SOUND, "+ + + +", "       ", "+ + + +", "  |2|  ", "+ + + +", "       ", "+ + + +");
        is(CELL, "+ + + +", "       ", "+ +-+ +", "  |2|  ", "+ + + +", "       ", "+ + + +");
        is(SOUND, "+ + + +", "       ", "+ +-+ +", "  |3|  ", "+ + + +", "       ", "+ + + +");
        is(CELL, "+ + + +", "       ", "+ +-+ +", "  |3|  ", "+ +-+ +", "       ", "+ + + +");
        is(SOUND, "+ + + +", "       ", "+ +-+ +", "  | |  ", "+ +-+ +", "       ", "+ + + +");
    }

    private static void cellHasTooFew() {
        is(SOUND, "+ + + +", "       ", "+ +x+ +", "   3   ", "+ + + +", "       ", "+ + + +");
        is(CELL, "+ + + +", "       ", "+ +x+ +", "   3x  ", "+ + + +", "       ", "+ + + +");
        is(SOUND, "+ + + +", "       ", "+ +-+ +", "  x3   ", "+ + + +", "       ", "+ + + +");
        is(CELL, "+ + + +", "       ", "+ +-+ +", "  x3x  ", "+ + + +", "       ", "+ + + +");
        is(SOUND, "+ + + +", "       ", "+ +-+ +", "  |3|  ", "+ +x+ +", "       ", "+ + + +");
        is(SOUND, "+ + + +", "       ", "+ +x+ +", "  x2   ", "+ + + +", "       ", "+ + + +");
        is(CELL, "+ + + +", "       ", "+ +x+ +", "  x2x  ", "+ + + +", "       ", "+ + + +");
        is(CELL, "+ + + +", "       ", "+ +-+ +", "  x2x  ", "+ +x+ +", "       ", "+ + + +");
        is(SOUND, "+ + + +", "       ", "+ +x+ +", "  x1x  ", "+ + + +", "       ", "+ + + +");
        is(CELL, "+ + + +", "       ", "+ +x+ +", "  x1x  ", "+ +x+ +", "       ", "+ + + +");
        is(SOUND, "+ + + +", "       ", "+ +x+ +", "  x0x  ", "+ +x+ +", "       ", "+ + + +");
        is(SOUND, "+ + + +", "       ", "+ +x+ +", "  x x  ", "+ +x+ +", "       ", "+ + + +");
    }

    private static void cellOfAnyPlace() {
        for (int cell = 0; cell < 16; cell++) {
            for (int side = 0; side < 4; side++) {
                SlitherFence fence = Check.board(4, 4);
                fence.number(cell, 0);
                fence.mark(fence.edgeOf(cell, side), SlitherFence.LINE);
                Check.same("12 one line around the zero in cell " + cell, fence.broken(), CELL);
                fence.number(cell, 3);
                Check.same("12 one line around the three in cell " + cell, fence.broken(), SOUND);
            }
        }
    }

    private static void pointOfTwoEdges() {
        is(SOUND, "+-+ +", "     ", "+ + +");
        is(SOUND, "+-+ +", "|    ", "+ + +");
        is(POINT, "+-+ +", "x    ", "+ + +");
        is(POINT, "+x+ +", "|    ", "+ + +");
        is(SOUND, "+x+ +", "x    ", "+ + +");
        is(POINT, "+ + +", "    x", "+ +-+");
    }

    private static void pointOfThreeEdges() {
        is(SOUND, "+-+ +", "  |  ", "+ + +");
        is(POINT, "+-+-+", "  |  ", "+ + +");
        is(SOUND, "+-+x+", "     ", "+ + +");
        is(POINT, "+-+x+", "  x  ", "+ + +");
        is(POINT, "+x+x+", "  |  ", "+ + +");
        is(SOUND, "+x+x+", "  x  ", "+ + +");
        is(SOUND, "+-+x+", "  |  ", "+ + +");
    }

    private static void pointOfFourEdges() {
        is(SOUND, "+ + +", "  |  ", "+-+ +", "     ", "+ + +");
        is(POINT, "+ + +", "  |  ", "+-+-+", "     ", "+ + +");
        is(POINT, "+ + +", "  |  ", "+-+ +", "  |  ", "+ + +");
        is(POINT, "+ + +", "  |  ", "+-+-+", "  |  ", "+ + +");
        is(SOUND, "+ + +", "  |  ", "+x+x+", "     ", "+ + +");
        is(POINT, "+ + +", "  |  ", "+x+x+", "  x  ", "+ + +");
        is(SOUND, "+ + +", "  |  ", "+x+x+", "  |  ", "+ + +");
        is(SOUND, "+ + +", "  x  ", "+x+x+", "  x  ", "+ + +");
    }

    private static void loopAndAnotherLine() {
        // a loop alone, the least one and a larger one; and a way that does not close
        is(SOUND, "+-+ +", "| |  ", "+-+ +");
        is(SOUND, "+-+-+", "|   |", "+-+-+");
        is(SOUND, "+-+-+", "|   |", "+-+ +");
        is(SOUND, "+-+ +", "|   |", "+-+-+");
        // another line, apart from the loop, behind it and ahead of it; and another loop
        is(LOOP, "+-+ +", "| | |", "+-+ +");
        is(LOOP, "+ +-+", "| | |", "+ +-+");
        is(LOOP, "+-+ +-+", "| |    ", "+-+ + +");
        is(LOOP, "+ +-+", "  | |", "+ +-+", "     ", "+-+ +");
        is(LOOP, "+-+ +-+", "| | | |", "+-+ +-+");
        is(LOOP, "+-+ +", "| |  ", "+-+ +", "     ", "+ +-+", "  | |", "+ +-+");
        // crosses besides are no lines
        is(SOUND, "+-+x+", "| | x", "+-+x+");
    }

    private static void loopAndNumbers() {
        // a cell apart from the loop, whose unknown edges would do for its number
        is(SOUND, "+-+ + +", "| |  0 ", "+-+ + +");
        is(LOOP, "+-+ + +", "| |  1 ", "+-+ + +");
        is(LOOP, "+-+ + +", "| |  2 ", "+-+ + +");
        // a cell beside the loop, and one inside it
        is(SOUND, "+-+ +", "| |1 ", "+-+ +");
        is(LOOP, "+-+ +", "| |2 ", "+-+ +");
        is(SOUND, "+-+-+", "|3 3|", "+-+-+");
        is(SOUND, "+-+-+-+", "|  2  |", "+-+-+-+");
        is(LOOP, "+-+-+-+", "|  3  |", "+-+-+-+");
        is(SOUND, "+-+-+-+", "|     |", "+ + + +", "|  0  |", "+ + + +", "|     |", "+-+-+-+");
        is(LOOP, "+-+-+-+", "|     |", "+ + + +", "|  1  |", "+ + + +", "|     |", "+-+-+-+");
        // no loop yet, so that the number may still become right
        is(SOUND, "+-+-+-+", "|     |", "+ + + +", "|  1  |", "+ + + +", "|     |", "+-+ +-+");
    }

    private static void colourOfTwoAreas() {
        is(SOUND, "+-+ +", "     ", "+ + +");
        is(COLOUR, "+-+ +", "     ", "+x+ +");
        is(COLOUR, "+x+ +", "     ", "+-+ +");
        is(SOUND, "+-+ +", "     ", "+-+ +");
        is(SOUND, "+x+ +", "     ", "+x+ +");
        // three edges on which they meet, of which two will do
        is(SOUND, "+-+ +", "|    ", "+-+ +");
        is(SOUND, "+-+ +", "     ", "+-+x+");
        // all four of them, on the smallest board
        is(SOUND, "+-+", "| |", "+-+");
        is(SOUND, "+x+", "x x", "+x+");
        is(COLOUR, "+-+", "   ", "+x+");
    }

    private static void colourOfMoreAreas() {
        // three areas: both cells and the outside
        is(SOUND, "+-+ +", "  |  ", "+ + +");
        is(COLOUR, "+-+ +", "  |  ", "+ +-+");
        is(SOUND, "+-+ +", "  x  ", "+ +-+");
        is(COLOUR, "+-+ +", "  x  ", "+ +x+");
        is(SOUND, "+x+ +", "  x  ", "+ +x+");
        // all of the largest board: in by the left edge of cell 0, through all cells, and out by the bottom of cell 12
        String[] through = {
            "+ + + + +", "| x x x  ", "+ + + +x+", "  x x x  ", "+x+ + + +",
            "  x x x  ", "+ + + +x+", "  x x x  ", "+ + + + +",
        };
        is(SOUND, through);
        through[8] = "+x+ + + +";
        is(COLOUR, through);
        through[8] = "+-+ + + +";
        is(SOUND, through);
        through[4] = "+-+ + + +";
        is(COLOUR, through);
        through[4] = "+ + + + +";
        is(SOUND, through);
    }

    private static void theFirstReason() {
        // cell and point, cell and loop, cell and colour
        is(CELL, "+-+-+", " 0|  ", "+ + +");
        is(CELL, "+-+ +-+", "|3| | |", "+-+ +-+");
        is(CELL, "+-+ +", " 0   ", "+x+ +");
        // point and loop, point and colour
        is(POINT, "+-+-+ +", "| |    ", "+-+ + +");
        is(POINT, "+-+", "x  ", "+ +");
        // loop and colour
        is(LOOP, "+-+ +-+", "| |    ", "+-+ +x+");
        // what is left of a board for which all four apply, when one after the other goes away
        is(CELL, "+-+ + +-+", "| |    0 ", "+-+-+ +x+");
        is(POINT, "+-+ + +-+", "| |      ", "+-+-+ +x+");
        is(LOOP, "+-+ + +-+", "| |      ", "+-+ + +x+");
        is(COLOUR, "+-+ + +-+", "|        ", "+-+ + +x+");
        is(SOUND, "+-+ + +-+", "|        ", "+-+ + + +");
    }
}
