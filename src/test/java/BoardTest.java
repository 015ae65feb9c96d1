/** Promises 1 to 9: the board. What is refused stands in BoundsTest. */
public final class BoardTest {
    public static void main(String[] args) {
        promise1NewObject();
        promise2Lay();
        promises3And4CellsAndEdges();
        promise5Number();
        promise6Mark();
        promise7Wipe();
        promise8MarkAll();
        promise8MarkAllEndsBroken();
        promise9EdgeOf();
        Check.end();
    }

    private static void promise1NewObject() {
        SlitherFence fence = new SlitherFence();
        Check.same("1 cells", fence.cells(), 9);
        Check.same("1 edges", fence.edges(), 24);
        Check.same("1 width", fence.edgeOf(0, 1), 3);
        for (int cell = 0; cell < 9; cell++) {
            Check.same("1 number " + cell, fence.number(cell, SlitherFence.NONE), SlitherFence.NONE);
        }
        for (int edge = 0; edge < 24; edge++) {
            Check.same("1 mark " + edge, fence.mark(edge, SlitherFence.UNKNOWN), SlitherFence.UNKNOWN);
        }
        Check.same("1 answers", fence.answers(), 213);
    }

    private static void promise2Lay() {
        for (int width = 1; width <= 4; width++) {
            for (int height = 1; height <= 4; height++) {
                SlitherFence fence = new SlitherFence();
                // twice, so that the same board laid again is an empty one, too
                for (int n = 0; n < 2; n++) {
                    fence.lay(width, height);
                    String name = "2 lay " + width + " " + height;
                    Check.same(name + " width", fence.edgeOf(0, 1), width);
                    Check.same(name + " cells", fence.cells(), width * height);
                    for (int cell = 0; cell < fence.cells(); cell++) {
                        Check.same(name + " number", fence.number(cell, 3), SlitherFence.NONE);
                    }
                    for (int edge = 0; edge < fence.edges(); edge++) {
                        Check.same(name + " mark", fence.mark(edge, 1 + edge % 2), SlitherFence.UNKNOWN);
                    }
                }
            }
        }
    }

    private static void promises3And4CellsAndEdges() {
        int[][] edges = {{4, 7, 10, 13}, {7, 12, 17, 22}, {10, 17, 24, 31}, {13, 22, 31, 40}};
        SlitherFence fence = new SlitherFence();
        for (int width = 1; width <= 4; width++) {
            for (int height = 1; height <= 4; height++) {
                fence.lay(width, height);
                Check.same("3 cells " + width + " " + height, fence.cells(), width * height);
                Check.same("4 edges " + width + " " + height, fence.edges(), edges[width - 1][height - 1]);
            }
        }
    }

    private static void promise5Number() {
        SlitherFence fence = Check.board(3, 2);
        Check.same("5 first", fence.number(0, 0), SlitherFence.NONE);
        Check.same("5 zero before", fence.number(0, 3), 0);
        Check.same("5 three before", fence.number(0, SlitherFence.NONE), 3);
        Check.same("5 none before", fence.number(0, 1), SlitherFence.NONE);
        Check.same("5 one before", fence.number(0, 2), 1);
        Check.same("5 two before", fence.number(0, 2), 2);
        Check.same("5 another cell", fence.number(5, 1), SlitherFence.NONE);
        Check.same("5 the first cell is as it was", fence.number(0, 2), 2);
    }

    private static void promise6Mark() {
        SlitherFence fence = Check.board(4, 4);
        int[] states = {1, 2, 0, 2, 1, 1, 0, 0, 2, 2, 0};
        for (int edge = 0; edge < 40; edge++) {
            int before = SlitherFence.UNKNOWN;
            for (int state : states) {
                Check.same("6 mark " + edge + " " + state, fence.mark(edge, state), before);
                before = state;
            }
        }
    }

    private static void promise7Wipe() {
        SlitherFence fence = Check.board(2, 1);
        fence.number(0, 3);
        fence.number(1, 0);
        Check.markEach(fence, SlitherFence.LINE, 0, 3, 6);
        Check.markEach(fence, SlitherFence.CROSS, 1, 5);
        fence.wipe();
        Check.same("7 wipe", Transcript.of(fence), Transcript.of(Drawing.fence("+ + +", " 3 0 ", "+ + +")));
        fence.wipe();
        Check.same("7 wipe again", fence.lines(), 0);
    }

    private static void promise8MarkAll() {
        SlitherFence fence = Check.board(1, 1);
        Check.same("8 nothing follows", fence.markAll(), 0);
        fence.mark(2, SlitherFence.LINE);
        Check.same("8 lines follow", fence.markAll(), 3);
        Check.same("8 marked lines", fence.lines(), 4);
        Check.same("8 again", fence.markAll(), 0);
        fence.wipe();
        fence.mark(0, SlitherFence.CROSS);
        Check.same("8 crosses follow", fence.markAll(), 3);
        for (int edge = 0; edge < 4; edge++) {
            Check.same("8 marked cross " + edge, Check.markOf(fence, edge), SlitherFence.CROSS);
        }
        fence.lay(2, 1);
        fence.mark(5, SlitherFence.CROSS);
        fence.mark(0, SlitherFence.LINE);
        // edge 1 is the only one left at the middle of the top, and so on: all around both cells
        Check.same("8 both follow", fence.markAll(), 5);
        Check.same("8 an answer", fence.isAnswer(), true);
        Check.same("8 the mark stays", Check.markOf(fence, 5), SlitherFence.CROSS);
    }

    private static void promise8MarkAllEndsBroken() {
        SlitherFence fence = Drawing.fence("+-+ + +", " 1     ", "+ + + +");
        markAllChangesNothing("8 torn", fence);

        fence = Drawing.fence("+-+ +", " 2  x", "+ + +", "   2 ", "+ + +");
        Check.same("8 the rounds go on first", fence.rounds() > 0, true);
        markAllChangesNothing("8 broken later", fence);

        markAllChangesNothing("8 broken at once", Drawing.fence("+-+ +", "     ", "+x+ +"));
    }

    private static void markAllChangesNothing(String name, SlitherFence fence) {
        String before = Transcript.of(fence);
        Check.same(name, fence.markAll(), 0);
        Check.same(name + " changes nothing", Transcript.of(fence), before);
    }

    private static void promise9EdgeOf() {
        SlitherFence fence = Check.board(4, 2);
        int[][] want = {
            {0, 4, 12, 13}, {1, 5, 13, 14}, {2, 6, 14, 15}, {3, 7, 15, 16},
            {4, 8, 17, 18}, {5, 9, 18, 19}, {6, 10, 19, 20}, {7, 11, 20, 21},
        };
        for (int cell = 0; cell < 8; cell++) {
            for (int side = 0; side < 4; side++) {
                Check.same("9 edgeOf " + cell + " " + side, fence.edgeOf(cell, side), want[cell][side]);
            }
        }
        fence.lay(1, 3);
        int[][] wantHigh = {{0, 1, 4, 5}, {1, 2, 6, 7}, {2, 3, 8, 9}};
        for (int cell = 0; cell < 3; cell++) {
            for (int side = 0; side < 4; side++) {
                Check.same("9 edgeOf high " + cell + " " + side, fence.edgeOf(cell, side), wantHigh[cell][side]);
            }
        }
    }
}
