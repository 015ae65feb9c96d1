/** Promises 20 to 25: answers. What is refused stands in BoundsTest. */
public final class AnswersTest {
    private static final int LINE = SlitherFence.LINE;
    private static final int CROSS = SlitherFence.CROSS;
    private static final int NONE = SlitherFence.NONE;

    /** The three loops of a board of 2 by 1 cells, in their order. */
    private static final long BOTH = Check.set(0, 1, 2, 3, 4, 6);
    private static final long LEFT = Check.set(0, 2, 4, 5);
    private static final long RIGHT = Check.set(1, 3, 5, 6);

    public static void main(String[] args) {
        promise20Answers();
        promise20WithNumbersAndMarks();
        promise21Answer();
        promise21Order();
        promise22IsInside();
        promise23Proved();
        promise24BeyondRules();
        promise25IsNeeded();
        theBoardLaidAgain();
        Check.end();
    }

    private static void promise20Answers() {
        int[][] loops = {{1, 3, 6, 10}, {3, 13, 40, 108}, {6, 40, 213, 1049}, {10, 108, 1049, 9349}};
        SlitherFence fence = new SlitherFence();
        for (int width = 1; width <= 4; width++) {
            for (int height = 1; height <= 4; height++) {
                fence.lay(width, height);
                Check.same("20 loops " + width + " " + height, fence.answers(), loops[width - 1][height - 1]);
            }
        }
    }

    private static void promise20WithNumbersAndMarks() {
        SlitherFence fence = Check.board(2, 1);
        fence.mark(5, LINE);
        Check.same("20 a line", fence.answers(), 2);
        fence.mark(5, CROSS);
        Check.same("20 a cross", fence.answers(), 1);
        fence.mark(0, CROSS);
        Check.same("20 two crosses", fence.answers(), 0);
        fence.wipe();
        fence.number(0, 1);
        Check.same("20 one", fence.answers(), 1);
        fence.number(0, 3);
        Check.same("20 three", fence.answers(), 1);
        fence.number(0, 0);
        Check.same("20 no loop is not an answer", fence.answers(), 0);
        fence.number(0, 2);
        Check.same("20 two", fence.answers(), 0);
        fence.number(0, NONE);
        Check.same("20 none", fence.answers(), 3);
        fence.mark(0, LINE);
        fence.mark(2, CROSS);
        Check.same("20 broken marks", fence.answers(), 0);
    }

    private static void promise21Answer() {
        SlitherFence fence = Check.board(2, 1);
        Check.same("21 first", fence.answer(0), BOTH);
        Check.same("21 second", fence.answer(1), LEFT);
        Check.same("21 third", fence.answer(2), RIGHT);
        fence.mark(5, LINE);
        Check.same("21 first that has it", fence.answer(0), LEFT);
        Check.same("21 second that has it", fence.answer(1), RIGHT);
        fence.lay(4, 4);
        fence.mark(39, LINE);
        fence.mark(18, CROSS);
        fence.number(15, 3);
        fence.number(14, 0);
        Check.same("21 no number is too large", fence.answers(), 0);
    }

    private static void promise21Order() {
        SlitherFence fence = Check.board(4, 4);
        int answers = fence.answers();
        long before = fence.answer(0);
        Check.same("21 the highest edges are told", before >>> 40, 0);
        // 512 calls are promised, so only some of them are looked at
        for (int answer = 23; answer < answers; answer += 23) {
            long next = fence.answer(answer);
            long differ = before ^ next;
            Check.same("21 order of " + answer, (before & differ & -differ) != 0L, true);
            before = next;
        }
    }

    private static void promise22IsInside() {
        SlitherFence fence = Check.board(2, 1);
        boolean[][] want = {{true, true}, {true, false}, {false, true}};
        for (int answer = 0; answer < 3; answer++) {
            for (int cell = 0; cell < 2; cell++) {
                Check.same("22 isInside " + answer + " " + cell, fence.isInside(answer, cell), want[answer][cell]);
            }
        }
        fence.lay(4, 4);
        // a horseshoe: all cells but the upper three of the second column
        Check.markEach(fence, LINE, 0, 2, 3, 21, 22, 26, 27, 31, 32, 13);
        Check.markEach(fence, LINE, 16, 17, 18, 19, 24, 29, 34, 39);
        Check.same("22 one horseshoe", fence.answers(), 1);
        for (int cell = 0; cell < 16; cell++) {
            boolean inside = cell != 1 && cell != 5 && cell != 9;
            Check.same("22 horseshoe " + cell, fence.isInside(0, cell), inside);
        }
    }

    private static void promise23Proved() {
        SlitherFence fence = Check.board(2, 1);
        for (int edge = 0; edge < 7; edge++) {
            Check.same("23 nothing " + edge, fence.proved(edge), SlitherFence.UNKNOWN);
        }
        fence.mark(0, LINE);
        int[] want = {1, 0, 1, 0, 1, 0, 0};
        for (int edge = 0; edge < 7; edge++) {
            Check.same("23 a line " + edge, fence.proved(edge), want[edge]);
        }
        fence.mark(5, LINE);
        int[] wantLeft = {1, 2, 1, 2, 1, 1, 2};
        for (int edge = 0; edge < 7; edge++) {
            Check.same("23 one answer " + edge, fence.proved(edge), wantLeft[edge]);
        }
    }

    private static void promise24BeyondRules() {
        SlitherFence fence = Check.board(1, 1);
        // no rule wants anything, and the one loop there is proves all edges
        Check.same("24 one cell", fence.beyondRules(), 4);
        fence.mark(0, LINE);
        Check.same("24 all follow", fence.beyondRules(), 0);
        fence.lay(2, 1);
        Check.same("24 nothing is proved", fence.beyondRules(), 0);
        fence.mark(5, CROSS);
        Check.same("24 all but the mark", fence.beyondRules(), 6);
        fence.mark(5, SlitherFence.UNKNOWN);
        fence.number(0, 1);
        // that is the right cell's loop; nothing follows
        Check.same("24 crosses are proved, too", fence.beyondRules(), 7);
        // the two answers agree on eight edges; one of them is marked, one more follows
        fence = Drawing.fence("+ + +", " 3  |", "+ + +", "     ", "+ + +");
        Check.same("24 two answers", fence.answers(), 2);
        String proved = "+-+-+/| x |/+-+ +/x    /+x+ +".replace('/', '\n');
        Check.same("24 proved by two answers", Drawing.proved(fence), proved);
        Check.same("24 what two answers prove beyond the rules", fence.beyondRules(), 6);
    }

    private static void promise25IsNeeded() {
        SlitherFence fence = Check.board(2, 1);
        Check.same("25 no number", fence.isNeeded(0), false);
        fence.number(0, 3);
        Check.same("25 one number", fence.isNeeded(0), true);
        Check.same("25 the other cell has none", fence.isNeeded(1), false);
        fence.number(1, 3);
        Check.same("25 one of two", fence.isNeeded(0), false);
        Check.same("25 the other one", fence.isNeeded(1), false);
        fence.number(1, 1);
        Check.same("25 no answer with both", fence.answers(), 0);
        Check.same("25 one answer without it", fence.isNeeded(0), true);
        fence.number(0, 2);
        Check.same("25 the wrong one is needed", fence.isNeeded(0), true);
        Check.same("25 none without the right one either", fence.isNeeded(1), false);
        fence.number(0, 3);
        fence.mark(5, CROSS);
        fence.number(1, NONE);
        Check.same("25 the mark does it", fence.isNeeded(0), false);
        String before = Transcript.of(fence);
        fence.isNeeded(0);
        Check.same("25 changes nothing", Transcript.of(fence), before);
    }

    private static void theBoardLaidAgain() {
        SlitherFence fence = Check.board(4, 1);
        Check.same("20 flat", fence.answers(), 10);
        fence.lay(1, 4);
        Check.same("20 upright", fence.answers(), 10);
        Check.same("21 upright", fence.answer(0), Check.set(0, 1, 5, 6));
        fence.number(0, 0);
        Check.same("20 upright, numbered", fence.answers(), 3);
        fence.lay(1, 4);
        Check.same("20 laid again", fence.answers(), 10);
    }
}
