/**
 * The bounds of all arguments, promise by promise: what lies just outside of them, and the least and the greatest int,
 * is refused with the exception that the document lists first, and nothing is changed by that; what lies just inside
 * of them is not refused. Each refused call goes to a new object.
 */
public final class BoundsTest {
    private static final Class<?> RANGE = IndexOutOfBoundsException.class;
    private static final Class<?> ARGUMENT = IllegalArgumentException.class;
    private static final Class<?> STATE = IllegalStateException.class;

    private static final String[][] BOARDS = {
        // the smallest board, without numbers or marks, with them, and without an answer
        {"+ +", "   ", "+ +"},
        {"+-+", "| |", "+-+"},
        {"+x+", " 1 ", "+ +"},
        // flat and upright ones, the second one with broken marks
        {"+ + + + +", " 1     3 ", "+ +-+ + +"},
        {"+-+", "|3|", "+-+", "   ", "+ +", " 2 ", "+ +", "x  ", "+ +"},
        {"+ + + +", " 2  x  ", "+-+ + +", "   3   ", "+ + + +"},
        // one where the rounds end torn
        {"+-+ +", " 1   ", "+ + +"},
        // the largest board, without numbers or marks, and with all of them
        {
            "+ + + + +", "         ", "+ + + + +", "         ", "+ + + + +",
            "         ", "+ + + + +", "         ", "+ + + + +",
        },
        {
            "+-+-+-+-+", "|2x1x1x2|", "+x+x+x+x+", "|1x0x0x1|", "+x+x+x+x+",
            "|1x0x0x1|", "+x+x+x+x+", "|2x1x1x2|", "+-+-+-+-+",
        },
    };

    private final String[] rows;
    private final String name;
    private final String before;
    private final int cells;
    private final int edges;
    private final int answers;

    private BoundsTest(String[] rows) {
        this.rows = rows;
        name = String.join("/", rows);
        SlitherFence fence = Drawing.fence(rows);
        cells = fence.cells();
        edges = fence.edges();
        answers = fence.answers();
        before = Transcript.of(fence);
    }

    public static void main(String[] args) {
        for (String[] rows : BOARDS) {
            BoundsTest test = new BoundsTest(rows);
            test.promise2Lay();
            test.promise5Number();
            test.promise6Mark();
            test.promise9EdgeOf();
            test.promises14To16();
            test.promises21And22();
            test.promises23And24();
            test.promise25IsNeeded();
            test.leastAndGreatestAreAllowed();
        }
        leastAndGreatestBoards();
        anotherBoardHasOtherBounds();
        aRefusedCallAmongOthers();
        Check.end();
    }

    private static int[] outside(int least, int greatest) {
        return new int[] {least - 1, greatest + 1, Integer.MIN_VALUE, Integer.MAX_VALUE};
    }

    /** What is looked at of a range that may hold nothing. */
    private static int[] endsOf(int least, int greatest) {
        return greatest < least ? new int[0] : new int[] {least, greatest};
    }

    private void refuses(String call, Class<?> exception, Check.Call made) {
        SlitherFence fence = Drawing.fence(rows);
        Check.same(call + " on " + name + ": what it throws", Check.thrownBy(fence, made), exception.getName());
        Check.same(call + " on " + name + ": what it leaves", Transcript.of(fence), before);
    }

    private void promise2Lay() {
        for (int wrong : outside(1, 4)) {
            for (int right : endsOf(1, 4)) {
                refuses("2 lay " + wrong + " " + right, ARGUMENT, fence -> fence.lay(wrong, right));
                refuses("2 lay " + right + " " + wrong, ARGUMENT, fence -> fence.lay(right, wrong));
            }
            for (int other : outside(1, 4)) {
                refuses("2 lay " + wrong + " " + other, ARGUMENT, fence -> fence.lay(wrong, other));
            }
        }
    }

    private void promise5Number() {
        for (int wrong : outside(0, cells - 1)) {
            for (int right : endsOf(SlitherFence.NONE, 3)) {
                refuses("5 cell " + wrong, RANGE, fence -> fence.number(wrong, right));
            }
            for (int other : outside(-1, 3)) {
                refuses("5 both " + wrong + " " + other, RANGE, fence -> fence.number(wrong, other));
            }
        }
        for (int cell : endsOf(0, cells - 1)) {
            for (int wrong : outside(-1, 3)) {
                refuses("5 number " + cell + " " + wrong, ARGUMENT, fence -> fence.number(cell, wrong));
            }
        }
    }

    private void promise6Mark() {
        for (int wrong : outside(0, edges - 1)) {
            for (int right : endsOf(SlitherFence.UNKNOWN, SlitherFence.CROSS)) {
                refuses("6 edge " + wrong, RANGE, fence -> fence.mark(wrong, right));
            }
            for (int other : outside(0, 2)) {
                refuses("6 both " + wrong + " " + other, RANGE, fence -> fence.mark(wrong, other));
            }
        }
        for (int edge : endsOf(0, edges - 1)) {
            for (int wrong : outside(0, 2)) {
                refuses("6 state " + edge + " " + wrong, ARGUMENT, fence -> fence.mark(edge, wrong));
            }
        }
    }

    private void promise9EdgeOf() {
        for (int wrong : outside(0, cells - 1)) {
            for (int right : endsOf(0, 3)) {
                refuses("9 cell " + wrong, RANGE, fence -> fence.edgeOf(wrong, right));
            }
            for (int other : outside(0, 3)) {
                refuses("9 both " + wrong + " " + other, RANGE, fence -> fence.edgeOf(wrong, other));
            }
        }
        for (int cell : endsOf(0, cells - 1)) {
            for (int wrong : outside(0, 3)) {
                refuses("9 side " + cell + " " + wrong, RANGE, fence -> fence.edgeOf(cell, wrong));
            }
        }
    }

    private void promises14To16() {
        for (int wrong : outside(0, edges - 1)) {
            refuses("14 edge " + wrong, RANGE, fence -> fence.follows(wrong));
            refuses("15 edge " + wrong, RANGE, fence -> fence.roundOf(wrong));
            refuses("16 edge " + wrong, RANGE, fence -> fence.ruleOf(wrong));
        }
    }

    private void promises21And22() {
        for (int wrong : outside(0, answers - 1)) {
            refuses("21 answer " + wrong, RANGE, fence -> fence.answer(wrong));
            for (int cell : endsOf(0, cells - 1)) {
                refuses("22 answer " + wrong, RANGE, fence -> fence.isInside(wrong, cell));
            }
            for (int other : outside(0, cells - 1)) {
                refuses("22 both " + wrong + " " + other, RANGE, fence -> fence.isInside(wrong, other));
            }
        }
        for (int answer : endsOf(0, answers - 1)) {
            for (int wrong : outside(0, cells - 1)) {
                refuses("22 cell " + answer + " " + wrong, RANGE, fence -> fence.isInside(answer, wrong));
            }
        }
    }

    private void promises23And24() {
        // where there is no answer, too: that there is no such edge is listed first
        for (int wrong : outside(0, edges - 1)) {
            refuses("23 edge " + wrong, RANGE, fence -> fence.proved(wrong));
        }
        if (answers == 0) {
            for (int edge : endsOf(0, edges - 1)) {
                refuses("23 no answer, edge " + edge, STATE, fence -> fence.proved(edge));
            }
            refuses("24 no answer", STATE, fence -> fence.beyondRules());
        }
    }

    private void promise25IsNeeded() {
        for (int wrong : outside(0, cells - 1)) {
            refuses("25 cell " + wrong, RANGE, fence -> fence.isNeeded(wrong));
        }
    }

    private void allows(String call, Check.Call made) {
        Check.same(call + " on " + name, Check.thrownBy(Drawing.fence(rows), made), "nothing");
    }

    private void leastAndGreatestAreAllowed() {
        for (int cell : endsOf(0, cells - 1)) {
            for (int number = -1; number <= 3; number++) {
                int allowed = number;
                allows("5 number " + cell + " " + number, fence -> fence.number(cell, allowed));
            }
            for (int side : endsOf(0, 3)) {
                allows("9 edgeOf " + cell + " " + side, fence -> fence.edgeOf(cell, side));
            }
            allows("25 isNeeded " + cell, fence -> fence.isNeeded(cell));
        }
        for (int edge : endsOf(0, edges - 1)) {
            for (int state = 0; state <= 2; state++) {
                int allowed = state;
                allows("6 mark " + edge + " " + state, fence -> fence.mark(edge, allowed));
            }
            allows("14 follows " + edge, fence -> fence.follows(edge));
            allows("15 roundOf " + edge, fence -> fence.roundOf(edge));
            allows("16 ruleOf " + edge, fence -> fence.ruleOf(edge));
            if (answers > 0) {
                allows("23 proved " + edge, fence -> fence.proved(edge));
            }
        }
        for (int answer : endsOf(0, answers - 1)) {
            allows("21 answer " + answer, fence -> fence.answer(answer));
            allows("22 isInside " + answer + " 0", fence -> fence.isInside(answer, 0));
            allows("22 isInside " + answer + " last", fence -> fence.isInside(answer, cells - 1));
        }
        if (answers > 0) {
            allows("24 beyondRules", fence -> fence.beyondRules());
        }
    }

    private static void leastAndGreatestBoards() {
        for (int width : endsOf(1, 4)) {
            for (int height : endsOf(1, 4)) {
                SlitherFence fence = new SlitherFence();
                fence.lay(width, height);
                Check.same("2 lay " + width + " " + height, fence.cells(), width * height);
            }
        }
    }

    private static void throwsThere(String what, SlitherFence fence, Class<?> exception, Check.Call call) {
        Check.same(what, Check.thrownBy(fence, call), exception.getName());
    }

    private static void anotherBoardHasOtherBounds() {
        SlitherFence fence = new SlitherFence();
        throwsThere("2 ahead of lay: 9 is no cell", fence, RANGE, made -> made.number(9, 1));
        throwsThere("2 ahead of lay: 24 is no edge", fence, RANGE, made -> made.mark(24, 1));
        fence.lay(4, 4);
        Check.same("2 lay: 15 is a cell", fence.number(15, 1), SlitherFence.NONE);
        Check.same("2 lay: 39 is an edge", fence.mark(39, SlitherFence.LINE), SlitherFence.UNKNOWN);
        fence.lay(2, 1);
        throwsThere("2 lay: 2 is no cell any more, to number", fence, RANGE, made -> made.number(2, 1));
        throwsThere("2 lay: 2 is no cell any more, to edgeOf", fence, RANGE, made -> made.edgeOf(2, 0));
        throwsThere("2 lay: 2 is no cell any more, to isInside", fence, RANGE, made -> made.isInside(0, 2));
        throwsThere("2 lay: 2 is no cell any more, to isNeeded", fence, RANGE, made -> made.isNeeded(2));
        throwsThere("2 lay: 7 is no edge any more, to mark", fence, RANGE, made -> made.mark(7, 1));
        throwsThere("2 lay: 7 is no edge any more, to follows", fence, RANGE, made -> made.follows(7));
        throwsThere("2 lay: 7 is no edge any more, to roundOf", fence, RANGE, made -> made.roundOf(7));
        throwsThere("2 lay: 7 is no edge any more, to ruleOf", fence, RANGE, made -> made.ruleOf(7));
        throwsThere("2 lay: 7 is no edge any more, to proved", fence, RANGE, made -> made.proved(7));
        throwsThere("2 lay: 3 is no answer any more", fence, RANGE, made -> made.answer(3));
        // fewer answers by a number, none by a mark, and all of them again
        fence.number(0, 3);
        Check.same("21 the one that is left", fence.answer(0), Check.set(0, 1, 2, 3, 4, 6));
        throwsThere("21 one is left", fence, RANGE, made -> made.answer(1));
        throwsThere("22 one is left", fence, RANGE, made -> made.isInside(1, 0));
        fence.mark(0, SlitherFence.CROSS);
        throwsThere("21 none is left", fence, RANGE, made -> made.answer(0));
        throwsThere("22 none is left", fence, RANGE, made -> made.isInside(0, 0));
        throwsThere("23 none is left", fence, STATE, made -> made.proved(0));
        throwsThere("24 none is left", fence, STATE, made -> made.beyondRules());
        fence.lay(2, 1);
        Check.same("21 the last one of all", fence.answer(2), Check.set(1, 3, 5, 6));
        throwsThere("21 no fourth one", fence, RANGE, made -> made.answer(3));
    }

    private static void aRefusedCallAmongOthers() {
        SlitherFence fence = Check.board(2, 1);
        fence.number(0, 2);
        throwsThere("5 a wrong number", fence, ARGUMENT, made -> made.number(0, 4));
        Check.same("5 the number before is not the refused one", fence.number(0, 3), 2);
        fence.mark(4, SlitherFence.CROSS);
        throwsThere("6 a wrong state", fence, ARGUMENT, made -> made.mark(4, 3));
        Check.same("6 the mark before is not the refused one", fence.mark(4, SlitherFence.LINE), SlitherFence.CROSS);
        throwsThere("2 a wrong height", fence, ARGUMENT, made -> made.lay(4, 5));
        Check.same("2 the width stays", fence.edgeOf(0, 1), 2);
        Check.same("2 the marks stay", fence.lines(), 1);
        Check.same("2 the numbers stay", fence.number(0, 3), 3);
    }
}
