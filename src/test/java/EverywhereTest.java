import java.util.Arrays;

/** What a rule wants, or breaks a state, it does at each cell, point and edge of the largest board alike. */
public final class EverywhereTest {
    private static final int LINE = SlitherFence.LINE;
    private static final int CROSS = SlitherFence.CROSS;
    private static final int SOUND = SlitherFence.SOUND;
    private static final int TORN = SlitherFence.TORN;
    private static final int SIDE = 4;
    private static final int CELLS = SIDE * SIDE;

    public static void main(String[] args) {
        for (int cell = 0; cell < CELLS; cell++) {
            rule1(cell);
            for (int side = 0; side < 4; side++) {
                rule2(cell, side);
                rule7(cell, side);
                for (int other = 0; other < CELLS; other++) {
                    if (other != cell) {
                        rule6(cell, side, other);
                    }
                }
            }
            for (int other = 0; other < CELLS; other++) {
                loopAndNumber(cell, other);
            }
        }
        for (int point = 0; point < (SIDE + 1) * (SIDE + 1); point++) {
            rules3To5(edgesAt(point), point);
        }
        Check.end();
    }

    private static SlitherFence largest() {
        return Check.board(SIDE, SIDE);
    }

    /** The edge is wanted in the first round, by this rule ahead of any other. */
    private static void wanted(String name, SlitherFence fence, int edge, int state, int rule) {
        Check.same(name + ": 14 follows " + edge, fence.follows(edge), state);
        Check.same(name + ": 15 roundOf " + edge, fence.roundOf(edge), 1);
        Check.same(name + ": 16 ruleOf " + edge, fence.ruleOf(edge), rule);
    }

    private static void torn(String name, SlitherFence fence) {
        Check.same(name + ": 17 rounds", fence.rounds(), 0);
        Check.same(name + ": 18 end", fence.end(), TORN);
    }

    /** The cell on the other side of an edge of a cell; NONE for the outside. */
    private static int beyond(int cell, int side) {
        int row = cell / SIDE + (side == 0 ? -1 : side == 1 ? 1 : 0);
        int column = cell % SIDE + (side == 2 ? -1 : side == 3 ? 1 : 0);
        boolean onBoard = row >= 0 && row < SIDE && column >= 0 && column < SIDE;
        return onBoard ? row * SIDE + column : SlitherFence.NONE;
    }

    private static boolean meets(int cell, int other) {
        boolean meets = false;
        for (int side = 0; side < 4; side++) {
            meets = meets || beyond(cell, side) == other;
        }
        return meets;
    }

    /** An edge that ends in a corner of the board: a point with two edges. */
    private static boolean endsInACorner(int cell, int side) {
        int outside = 0;
        for (int any = 0; any < 4; any++) {
            outside += beyond(cell, any) == SlitherFence.NONE ? 1 : 0;
        }
        return outside == 2 && beyond(cell, side) == SlitherFence.NONE;
    }

    private static void rule1(int cell) {
        SlitherFence fence = largest();
        fence.number(cell, 0);
        for (int side = 0; side < 4; side++) {
            wanted("zero in " + cell, fence, fence.edgeOf(cell, side), CROSS, 1);
        }
        Check.same("zero in " + cell + ": 19 hint", fence.hint(), fence.edgeOf(cell, 0));
    }

    private static void rule2(int cell, int crossed) {
        String name = "three in " + cell + " with a cross on side " + crossed;
        SlitherFence fence = largest();
        fence.number(cell, 3);
        fence.mark(fence.edgeOf(cell, crossed), CROSS);
        if (endsInACorner(cell, crossed)) {
            // the corner's other edge can't be a line then
            torn(name, fence);
            return;
        }
        for (int side = 0; side < 4; side++) {
            if (side != crossed) {
                wanted(name, fence, fence.edgeOf(cell, side), LINE, 2);
            }
        }
    }

    /** A cell that an edge joins with the outside, and the way from it to another area and back to the outside. */
    private static void rule7(int cell, int side) {
        int next = beyond(cell, side);
        for (int in = 0; in < 4; in++) {
            for (int out = 0; out < 4; out++) {
                if (next != SlitherFence.NONE && beyond(cell, in) == SlitherFence.NONE
                        && beyond(next, out) == SlitherFence.NONE) {
                    for (int lines = 0; lines < 4; lines++) {
                        rule7(cell, in, next, out, lines);
                    }
                }
            }
        }
    }

    private static void rule7(int cell, int in, int next, int out, int lines) {
        String name = "in by side " + in + " of " + cell + ", out by side " + out + " of " + next + ", " + lines;
        SlitherFence fence = largest();
        int between = SlitherFence.NONE;
        for (int side = 0; side < 4; side++) {
            between = beyond(cell, side) == next ? fence.edgeOf(cell, side) : between;
        }
        fence.mark(fence.edgeOf(cell, in), (lines & 1) == 1 ? LINE : CROSS);
        fence.mark(fence.edgeOf(next, out), (lines & 2) == 2 ? LINE : CROSS);
        int state = lines == 1 || lines == 2 ? LINE : CROSS;
        Check.same(name + ": 14 follows", fence.follows(between), state);
        Check.same(name + ": 15 roundOf", fence.roundOf(between), 1);
        // on the same side of the board both meet the edge in one point, and another rule wants it as well
        int byPoint = lines == 3 ? 3 : lines == 0 ? 5 : 4;
        Check.same(name + ": 16 ruleOf", fence.ruleOf(between), in == out ? byPoint : 7);
    }

    /** Three lines around a cell: with the fourth one they form a loop, and the other cell's number is right or not. */
    private static void rule6(int cell, int open, int other) {
        for (int number = 0; number <= 3; number++) {
            int byLoop = meets(cell, other) ? 1 : 0;
            boolean isMet = byLoop == 1 && beyond(cell, open) != other;
            if (isMet && number == 0) {
                continue;
            }
            String name = "three lines around " + cell + ", open on side " + open + ", " + number + " in " + other;
            SlitherFence fence = largest();
            fence.number(other, number);
            int edge = fence.edgeOf(cell, open);
            for (int side = 0; side < 4; side++) {
                if (side != open) {
                    fence.mark(fence.edgeOf(cell, side), LINE);
                }
            }
            boolean wantedByRule1 = number == 0 && beyond(cell, open) == other;
            if (endsInACorner(cell, open) && (number != byLoop || wantedByRule1)) {
                torn(name, fence);
            } else if (endsInACorner(cell, open)) {
                wanted(name, fence, edge, LINE, 4);
            } else if (number != byLoop) {
                wanted(name, fence, edge, CROSS, wantedByRule1 ? 1 : 6);
            } else {
                Check.same(name + ": 15 roundOf", fence.roundOf(edge) == 1, false);
            }
        }
    }

    /** The loop around a cell, and a number in the other one; or in the same one. */
    private static void loopAndNumber(int cell, int other) {
        int byLoop = cell == other ? 4 : meets(cell, other) ? 1 : 0;
        for (int number = 0; number <= 3; number++) {
            String name = "the loop around " + cell + ", " + number + " in " + other;
            SlitherFence fence = largest();
            for (int side = 0; side < 4; side++) {
                fence.mark(fence.edgeOf(cell, side), LINE);
            }
            fence.number(other, number);
            int due = number == byLoop ? SOUND : number < byLoop ? SlitherFence.CELL : SlitherFence.LOOP;
            Check.same(name + ": 12 broken", fence.broken(), due);
            Check.same(name + ": 13 isAnswer", fence.isAnswer(), number == byLoop);
            Check.same(name + ": 20 answers", fence.answers(), number == byLoop ? 1 : 0);
            Check.same(name + ": 25 isNeeded", fence.isNeeded(other), number != byLoop);
        }
    }

    private static int[] edgesAt(int point) {
        int row = point / (SIDE + 1);
        int column = point % (SIDE + 1);
        int[] there = new int[4];
        int count = 0;
        int horizontals = SIDE * (SIDE + 1);
        if (column > 0) {
            there[count++] = row * SIDE + column - 1;
        }
        if (column < SIDE) {
            there[count++] = row * SIDE + column;
        }
        if (row > 0) {
            there[count++] = horizontals + (row - 1) * (SIDE + 1) + column;
        }
        if (row < SIDE) {
            there[count++] = horizontals + row * (SIDE + 1) + column;
        }
        return Arrays.copyOf(there, count);
    }

    private static void rules3To5(int[] edges, int point) {
        for (int one : edges) {
            for (int other : edges) {
                if (one != other) {
                    rule3(edges, one, other, point);
                    rule4(edges, one, other, point);
                }
            }
            rule5(edges, one, point);
        }
    }

    private static void rule3(int[] edges, int one, int other, int point) {
        SlitherFence fence = largest();
        Check.markEach(fence, LINE, one, other);
        for (int edge : edges) {
            if (edge != one && edge != other) {
                wanted("two lines at the point " + point, fence, edge, CROSS, 3);
            }
        }
    }

    private static void rule4(int[] edges, int line, int open, int point) {
        SlitherFence fence = largest();
        Check.markEach(fence, CROSS, edges);
        fence.mark(open, SlitherFence.UNKNOWN);
        fence.mark(line, LINE);
        wanted("one line at the point " + point, fence, open, LINE, 4);
        fence.mark(open, CROSS);
        Check.same("12 a dead end at the point " + point, fence.broken(), SlitherFence.POINT);
    }

    private static void rule5(int[] edges, int open, int point) {
        SlitherFence fence = largest();
        Check.markEach(fence, CROSS, edges);
        fence.mark(open, SlitherFence.UNKNOWN);
        wanted("no line at the point " + point, fence, open, CROSS, 5);
    }
}
