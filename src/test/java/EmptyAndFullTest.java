/** Boards of all sizes without numbers or marks, and with all cells told and all edges marked. */
public final class EmptyAndFullTest {
    private static final int NONE = SlitherFence.NONE;
    private static final int UNKNOWN = SlitherFence.UNKNOWN;
    private static final int LINE = SlitherFence.LINE;
    private static final int CROSS = SlitherFence.CROSS;
    private static final int SOUND = SlitherFence.SOUND;
    /** So many loops are looked at of each size. */
    private static final int LOOKED_AT = 12;

    private final int width;
    private final int height;
    private final long loop;
    private final String name;

    private EmptyAndFullTest(int width, int height, long loop) {
        this.width = width;
        this.height = height;
        this.loop = loop;
        name = width + " by " + height + ", lines " + Long.toBinaryString(loop) + ": ";
    }

    public static void main(String[] args) {
        empty(new SlitherFence(), 3, 3);
        for (int width = 1; width <= 4; width++) {
            for (int height = 1; height <= 4; height++) {
                empty(Check.board(width, height), width, height);
                SlitherFence fence = Check.board(width, height);
                int loops = fence.answers();
                for (int n = 0; n < LOOKED_AT; n++) {
                    long loop = fence.answer(n * (loops - 1) / (LOOKED_AT - 1));
                    EmptyAndFullTest full = new EmptyAndFullTest(width, height, loop);
                    if (full.canBeTold()) {
                        full.allToldAndMarked();
                        full.insideAndOutside();
                        full.allToldNothingMarked();
                        full.oneWrongMark();
                        full.oneWrongNumber();
                    }
                    full.allMarkedNothingTold();
                }
            }
        }
        allCrosses();
        Check.end();
    }

    private static void empty(SlitherFence fence, int width, int height) {
        String name = width + " by " + height + ", empty: ";
        boolean isOneCell = width * height == 1;
        Check.same(name + "10 lines", fence.lines(), 0);
        Check.same(name + "11 ways", fence.ways(), 0);
        Check.same(name + "12 broken", fence.broken(), SOUND);
        Check.same(name + "13 isAnswer", fence.isAnswer(), false);
        Check.same(name + "17 rounds", fence.rounds(), 0);
        Check.same(name + "18 end", fence.end(), SOUND);
        Check.same(name + "19 hint", fence.hint(), NONE);
        Check.same(name + "8 markAll", fence.markAll(), 0);
        Check.same(name + "20 answers", fence.answers() > 0, true);
        Check.same(name + "24 beyondRules", fence.beyondRules(), isOneCell ? 4 : 0);
        for (int edge = 0; edge < fence.edges(); edge++) {
            Check.same(name + "14 follows " + edge, fence.follows(edge), UNKNOWN);
            Check.same(name + "15 roundOf " + edge, fence.roundOf(edge), NONE);
            Check.same(name + "16 ruleOf " + edge, fence.ruleOf(edge), NONE);
            Check.same(name + "23 proved " + edge, fence.proved(edge), isOneCell ? LINE : UNKNOWN);
        }
        for (int cell = 0; cell < fence.cells(); cell++) {
            Check.same(name + "25 isNeeded " + cell, fence.isNeeded(cell), false);
            Check.same(name + "5 number " + cell, fence.number(cell, NONE), NONE);
        }
    }

    private int stateOf(int edge) {
        return (loop >> edge & 1L) == 1L ? LINE : CROSS;
    }

    private static int linesAround(SlitherFence fence, int cell, long set) {
        int lines = 0;
        for (int side = 0; side < 4; side++) {
            lines += (int) (set >> fence.edgeOf(cell, side) & 1L);
        }
        return lines;
    }

    /** Not if there are four lines around a cell, as no number tells that. */
    private boolean canBeTold() {
        SlitherFence fence = Check.board(width, height);
        boolean can = true;
        for (int cell = 0; cell < width * height; cell++) {
            can = can && linesAround(fence, cell, loop) < 4;
        }
        return can;
    }

    private SlitherFence made(boolean told, boolean marked) {
        SlitherFence fence = Check.board(width, height);
        for (int cell = 0; told && cell < width * height; cell++) {
            fence.number(cell, linesAround(fence, cell, loop));
        }
        for (int edge = 0; marked && edge < fence.edges(); edge++) {
            fence.mark(edge, stateOf(edge));
        }
        return fence;
    }

    private void isSolved(SlitherFence fence) {
        Check.same(name + "10 lines", fence.lines(), Long.bitCount(loop));
        Check.same(name + "11 ways", fence.ways(), 1);
        Check.same(name + "12 broken", fence.broken(), SOUND);
        Check.same(name + "13 isAnswer", fence.isAnswer(), true);
        Check.same(name + "17 rounds", fence.rounds(), 0);
        Check.same(name + "18 end", fence.end(), SOUND);
        Check.same(name + "19 hint", fence.hint(), NONE);
        Check.same(name + "8 markAll", fence.markAll(), 0);
        Check.same(name + "20 answers", fence.answers(), 1);
        Check.same(name + "21 answer", fence.answer(0), loop);
        Check.same(name + "24 beyondRules", fence.beyondRules(), 0);
    }

    private void allToldAndMarked() {
        SlitherFence fence = made(true, true);
        isSolved(fence);
        for (int edge = 0; edge < fence.edges(); edge++) {
            Check.same(name + "14 follows " + edge, fence.follows(edge), stateOf(edge));
            Check.same(name + "15 roundOf " + edge, fence.roundOf(edge), 0);
            Check.same(name + "16 ruleOf " + edge, fence.ruleOf(edge), NONE);
            Check.same(name + "23 proved " + edge, fence.proved(edge), stateOf(edge));
        }
        for (int cell = 0; cell < fence.cells(); cell++) {
            Check.same(name + "25 isNeeded " + cell + ", where the marks do it", fence.isNeeded(cell), false);
        }
    }

    private void allMarkedNothingTold() {
        isSolved(made(false, true));
    }

    /** Of two areas that meet on an edge, one is inside and one outside if, and only if, the edge is a line. */
    private void insideAndOutside() {
        SlitherFence fence = made(true, true);
        for (int cell = 0; cell < width * height; cell++) {
            boolean left = cell % width > 0 && fence.isInside(0, cell - 1);
            boolean top = cell >= width && fence.isInside(0, cell - width);
            boolean inside = fence.isInside(0, cell);
            Check.same(name + "22 left of " + cell, left != inside, stateOf(fence.edgeOf(cell, 2)) == LINE);
            Check.same(name + "22 above " + cell, top != inside, stateOf(fence.edgeOf(cell, 0)) == LINE);
            if (cell % width == width - 1) {
                Check.same(name + "22 right of " + cell, inside, stateOf(fence.edgeOf(cell, 3)) == LINE);
            }
            if (cell >= width * (height - 1)) {
                Check.same(name + "22 below " + cell, inside, stateOf(fence.edgeOf(cell, 1)) == LINE);
            }
        }
    }

    private void allToldNothingMarked() {
        SlitherFence fence = made(true, false);
        int answers = fence.answers();
        boolean isThere = false;
        for (int answer = 0; answer < answers; answer++) {
            isThere = isThere || fence.answer(answer) == loop;
        }
        Check.same(name + "21 is among the answers", isThere, true);
        for (int cell = 0; cell < width * height; cell++) {
            boolean isNeeded = fence.isNeeded(cell);
            int number = fence.number(cell, NONE);
            int without = fence.answers();
            Check.same(name + "25 isNeeded " + cell, isNeeded, without > answers);
            Check.same(name + "25 isNeeded " + cell + " without its number", fence.isNeeded(cell), false);
            fence.number(cell, number);
        }
        // what the rules find is right, as the loop is an answer, and what is proved is right, too
        for (int edge = 0; edge < fence.edges(); edge++) {
            int follows = fence.follows(edge);
            int proved = fence.proved(edge);
            Check.same(name + "14 follows " + edge, follows == UNKNOWN || follows == stateOf(edge), true);
            Check.same(name + "23 proved " + edge, proved == UNKNOWN || proved == stateOf(edge), true);
            Check.same(name + "23 what follows is proved " + edge, follows == UNKNOWN || follows == proved, true);
        }
    }

    private void oneWrongMark() {
        SlitherFence fence = made(true, true);
        int edges = fence.edges();
        for (int edge = 0; edge < edges; edge++) {
            fence.mark(edge, LINE + CROSS - stateOf(edge));
            Check.same(name + "12 wrong mark of " + edge, fence.broken(), SlitherFence.CELL);
            Check.same(name + "13 wrong mark of " + edge, fence.isAnswer(), false);
            Check.same(name + "20 wrong mark of " + edge, fence.answers(), 0);
            Check.same(name + "6 wrong mark of " + edge, fence.mark(edge, stateOf(edge)), LINE + CROSS - stateOf(edge));
        }
        Check.same(name + "13 all marks are right again", fence.isAnswer(), true);
    }

    private void oneWrongNumber() {
        SlitherFence fence = made(true, true);
        for (int cell = 0; cell < width * height; cell++) {
            int right = fence.number(cell, NONE);
            Check.same(name + "13 no number in " + cell, fence.isAnswer(), true);
            fence.number(cell, (right + 1 + cell % 3) % 4);
            Check.same(name + "12 wrong number in " + cell, fence.broken(), SlitherFence.CELL);
            Check.same(name + "13 wrong number in " + cell, fence.isAnswer(), false);
            Check.same(name + "18 wrong number in " + cell, fence.end(), SlitherFence.CELL);
            Check.same(name + "20 wrong number in " + cell, fence.answers(), 0);
            Check.same(name + "25 the wrong number in " + cell, fence.isNeeded(cell), true);
            int other = (cell + 1) % (width * height);
            Check.same(name + "25 a right one with it, in " + other, fence.isNeeded(other), false);
            Check.same(name + "23 wrong number in " + cell, Check.thrownBy(fence, made -> made.proved(0)),
                    "java.lang.IllegalStateException");
            Check.same(name + "24 wrong number in " + cell, Check.thrownBy(fence, made -> made.beyondRules()),
                    "java.lang.IllegalStateException");
            fence.number(cell, right);
        }
        Check.same(name + "13 all numbers are right again", fence.isAnswer(), true);
    }

    private static void allCrosses() {
        for (int width = 1; width <= 4; width++) {
            for (int height = 1; height <= 4; height++) {
                SlitherFence fence = Check.board(width, height);
                int edges = fence.edges();
                for (int edge = 0; edge < edges; edge++) {
                    fence.mark(edge, CROSS);
                }
                for (int cell = 0; cell < width * height; cell++) {
                    fence.number(cell, 0);
                }
                String name = width + " by " + height + ", all crosses: ";
                Check.same(name + "10 lines", fence.lines(), 0);
                Check.same(name + "11 ways", fence.ways(), 0);
                Check.same(name + "12 broken", fence.broken(), SOUND);
                Check.same(name + "13 isAnswer", fence.isAnswer(), false);
                Check.same(name + "18 end", fence.end(), SOUND);
                Check.same(name + "20 answers", fence.answers(), 0);
                Check.same(name + "25 isNeeded", fence.isNeeded(0), false);
            }
        }
    }
}
