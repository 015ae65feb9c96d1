/** Promises 14 to 19: what follows. What is refused stands in BoundsTest. */
public final class FollowsTest {
    private static final int UNKNOWN = SlitherFence.UNKNOWN;
    private static final int LINE = SlitherFence.LINE;
    private static final int CROSS = SlitherFence.CROSS;
    private static final int NONE = SlitherFence.NONE;

    public static void main(String[] args) {
        nothingFollows();
        rule1();
        rule2();
        rule3();
        rule4();
        rule5();
        rule6();
        rule6Unless();
        rule6Number();
        rule7();
        firstRuleOfSeveral();
        allAtOnce();
        laterRounds();
        endBroken();
        endTorn();
        promise19Hint();
        Check.end();
    }

    /** What the calls tell of one edge: promises 14, 15 and 16. */
    private static void edge(SlitherFence fence, String name, int edge, int state, int round, int rule) {
        Check.same(name + ": 14 follows " + edge, fence.follows(edge), state);
        Check.same(name + ": 15 roundOf " + edge, fence.roundOf(edge), round);
        Check.same(name + ": 16 ruleOf " + edge, fence.ruleOf(edge), rule);
    }

    /** Promises 17 and 18. */
    private static void over(SlitherFence fence, String name, int rounds, int end) {
        Check.same(name + ": 17 rounds", fence.rounds(), rounds);
        Check.same(name + ": 18 end", fence.end(), end);
    }

    private static void nothingFollows() {
        SlitherFence fence = new SlitherFence();
        over(fence, "nothing", 0, SlitherFence.SOUND);
        for (int edge = 0; edge < 24; edge++) {
            edge(fence, "nothing", edge, UNKNOWN, NONE, NONE);
        }
        Check.markEach(fence, LINE, 0);
        Check.markEach(fence, CROSS, 4);
        edge(fence, "marked", 0, LINE, 0, NONE);
        edge(fence, "marked", 4, CROSS, 0, NONE);
    }

    private static void rule1() {
        SlitherFence fence = Check.board(4, 4);
        fence.number(5, 0);
        over(fence, "rule 1", 1, SlitherFence.SOUND);
        for (int side = 0; side < 4; side++) {
            edge(fence, "rule 1", fence.edgeOf(5, side), CROSS, 1, 1);
        }
        edge(fence, "rule 1", 1, UNKNOWN, NONE, NONE);
        fence.number(5, 1);
        fence.mark(5, LINE);
        edge(fence, "rule 1", 9, CROSS, 1, 1);
        fence.number(5, 2);
        edge(fence, "rule 1", 9, UNKNOWN, NONE, NONE);
    }

    private static void rule2() {
        SlitherFence fence = Check.board(4, 4);
        fence.number(5, 3);
        edge(fence, "rule 2", 5, UNKNOWN, NONE, NONE);
        fence.mark(9, CROSS);
        edge(fence, "rule 2", 5, LINE, 1, 2);
        edge(fence, "rule 2", 26, LINE, 1, 2);
        edge(fence, "rule 2", 27, LINE, 1, 2);
        fence.number(5, 2);
        edge(fence, "rule 2", 5, UNKNOWN, NONE, NONE);
    }

    private static void rule3() {
        SlitherFence fence = Check.board(4, 4);
        // a bend at the point in the middle
        Check.markEach(fence, LINE, 9, 27);
        over(fence, "rule 3", 1, SlitherFence.SOUND);
        edge(fence, "rule 3", 10, CROSS, 1, 3);
        edge(fence, "rule 3", 32, CROSS, 1, 3);
        edge(fence, "rule 3", 8, UNKNOWN, NONE, NONE);
    }

    private static void rule4() {
        SlitherFence fence = Check.board(4, 4);
        fence.mark(0, LINE);
        over(fence, "rule 4", 1, SlitherFence.SOUND);
        edge(fence, "rule 4", 20, LINE, 1, 4);
        edge(fence, "rule 4", 1, UNKNOWN, NONE, NONE);
        edge(fence, "rule 4", 21, UNKNOWN, NONE, NONE);
    }

    private static void rule5() {
        SlitherFence fence = Check.board(4, 4);
        fence.mark(0, CROSS);
        over(fence, "rule 5", 1, SlitherFence.SOUND);
        edge(fence, "rule 5", 20, CROSS, 1, 5);
        edge(fence, "rule 5", 1, UNKNOWN, NONE, NONE);
        edge(fence, "rule 5", 4, UNKNOWN, NONE, NONE);
    }

    private static void rule6() {
        SlitherFence fence = Check.board(4, 4);
        // three sides of a cell in the middle, and a line elsewhere: the fourth side would close a loop
        Check.markEach(fence, LINE, 5, 26, 27, 2);
        edge(fence, "rule 6", 9, CROSS, 1, 6);
        fence.wipe();
        // five sides of a block of two cells
        Check.markEach(fence, LINE, 5, 6, 26, 28, 9, 39);
        edge(fence, "rule 6", 10, CROSS, 1, 6);
        // the edge between the two cells has one end alone on the way
        edge(fence, "rule 6", 27, CROSS, 1, 3);
    }

    private static void rule6Unless() {
        SlitherFence fence = Check.board(4, 4);
        Check.markEach(fence, LINE, 5, 26, 27);
        // it would be an answer, so rule 6 wants nothing, and no other rule decides it
        edge(fence, "rule 6 unless", 9, UNKNOWN, NONE, NONE);
        fence.number(5, NONE);
        fence.number(4, 1);
        fence.number(6, 1);
        edge(fence, "rule 6 unless, numbers right", 9, UNKNOWN, NONE, NONE);
    }

    private static void rule6Number() {
        SlitherFence fence = Check.board(4, 4);
        Check.markEach(fence, LINE, 5, 26, 27);
        fence.number(15, 1);
        edge(fence, "rule 6, a number is not right", 9, CROSS, 1, 6);
        fence.number(15, 0);
        edge(fence, "rule 6, a zero is right", 9, UNKNOWN, NONE, NONE);
        fence.number(15, NONE);
        // the cell below would have one line by it
        fence.number(9, 2);
        edge(fence, "rule 6, too few lines there", 9, CROSS, 1, 6);
        // enough lines for the loop, but a chord: its points are joined, and it is no part of it
        fence.lay(2, 1);
        Check.markEach(fence, LINE, 0, 1, 4, 6, 2, 3);
        edge(fence, "rule 3 ahead of rule 6", 5, CROSS, 1, 3);
        over(fence, "a chord", 1, SlitherFence.SOUND);
    }

    private static void rule7() {
        SlitherFence fence = Check.board(4, 4);
        // from the outside through cells 1 and 5 to cell 4 and out again
        Check.markEach(fence, CROSS, 1, 26);
        fence.mark(5, LINE);
        edge(fence, "rule 7, an odd number of lines", 25, LINE, 1, 7);
        fence.mark(1, LINE);
        edge(fence, "rule 7, an even number of lines", 25, CROSS, 1, 7);
        fence.mark(26, UNKNOWN);
        edge(fence, "rule 7, no chain", 25, UNKNOWN, NONE, NONE);
        // of two areas that meet on several edges
        fence.lay(1, 4);
        fence.mark(7, LINE);
        edge(fence, "rule 7, the other edge", 8, LINE, 1, 7);
        edge(fence, "rule 7, the next cell", 9, UNKNOWN, NONE, NONE);
    }

    private static void firstRuleOfSeveral() {
        SlitherFence fence = Check.board(1, 1);
        fence.mark(0, LINE);
        edge(fence, "4 and 7", 2, LINE, 1, 4);
        edge(fence, "7 alone", 1, LINE, 1, 7);
        fence.lay(1, 1);
        fence.mark(0, CROSS);
        fence.number(0, 0);
        edge(fence, "1, 5 and 7", 2, CROSS, 1, 1);
        fence.number(0, NONE);
        edge(fence, "5 and 7", 2, CROSS, 1, 5);
        fence.lay(2, 1);
        Check.markEach(fence, LINE, 0, 2, 4, 6);
        edge(fence, "6 and 7", 5, CROSS, 1, 6);
        fence.number(0, 3);
        edge(fence, "1, 6 and 7", 5, CROSS, 1, 1);
    }

    private static void allAtOnce() {
        SlitherFence fence = Check.board(4, 1);
        fence.mark(4, LINE);
        // 8 by rule 4 and 0 by rule 7, both asked about the marks
        edge(fence, "all at once", 8, LINE, 1, 4);
        edge(fence, "all at once", 0, LINE, 1, 7);
        fence.lay(3, 3);
        fence.number(4, 0);
        fence.number(0, 3);
        edge(fence, "in round 1", 4, CROSS, 1, 1);
    }

    private static void laterRounds() {
        SlitherFence fence = Check.board(2, 2);
        fence.number(0, 0);
        over(fence, "later rounds", 2, SlitherFence.SOUND);
        edge(fence, "later rounds", 7, CROSS, 1, 1);
        edge(fence, "later rounds", 1, CROSS, 2, 5);
        edge(fence, "later rounds", 9, CROSS, 2, 5);
        edge(fence, "later rounds", 8, CROSS, 2, 7);
        edge(fence, "later rounds", 4, CROSS, 2, 7);
        for (int side = 0; side < 4; side++) {
            edge(fence, "later rounds", fence.edgeOf(3, side), UNKNOWN, NONE, NONE);
        }
    }

    private static void endBroken() {
        SlitherFence fence = Check.board(2, 2);
        fence.number(0, 2);
        fence.number(3, 2);
        Check.markEach(fence, LINE, 0);
        Check.markEach(fence, CROSS, 8);
        over(fence, "broken later", 1, SlitherFence.CELL);
        edge(fence, "broken later", 1, CROSS, 1, 5);
        edge(fence, "broken later", 6, LINE, 1, 4);
        edge(fence, "broken later", 0, LINE, 0, NONE);

        fence.lay(2, 1);
        fence.mark(0, LINE);
        fence.mark(2, CROSS);
        over(fence, "colour at once", 0, SlitherFence.COLOUR);
        edge(fence, "colour at once", 4, UNKNOWN, NONE, NONE);
        fence.number(0, 0);
        over(fence, "cell at once", 0, SlitherFence.CELL);
        fence.lay(3, 3);
        Check.markEach(fence, LINE, 0, 1, 13);
        over(fence, "point at once", 0, SlitherFence.POINT);
        fence.lay(2, 1);
        Check.markEach(fence, LINE, 0, 2, 4, 5, 6);
        over(fence, "loop at once", 0, SlitherFence.LOOP);
    }

    private static void endTorn() {
        SlitherFence fence = Check.board(3, 3);
        fence.number(0, 1);
        fence.mark(0, LINE);
        over(fence, "torn", 0, SlitherFence.TORN);
        edge(fence, "torn", 12, UNKNOWN, NONE, NONE);
        edge(fence, "torn: nothing else is decided in that round", 3, UNKNOWN, NONE, NONE);
        edge(fence, "torn", 0, LINE, 0, NONE);

        fence.lay(2, 1);
        Check.markEach(fence, LINE, 0, 2, 4);
        fence.mark(6, CROSS);
        fence.number(1, 2);
        over(fence, "torn between rules 6 and 7", 0, SlitherFence.TORN);
        fence.number(1, 1);
        over(fence, "no longer torn", 1, SlitherFence.SOUND);
        edge(fence, "no longer torn", 5, LINE, 1, 7);
    }

    private static void promise19Hint() {
        SlitherFence fence = Check.board(3, 3);
        Check.same("19 nothing", fence.hint(), NONE);
        fence.mark(0, LINE);
        Check.same("19 a line", fence.hint(), 12);
        fence.number(4, 0);
        Check.same("19 the lowest one", fence.hint(), 4);
        fence.number(4, NONE);
        fence.number(0, 1);
        Check.same("19 a torn edge is not the lowest one", fence.hint(), 3);
        fence.mark(3, CROSS);
        fence.mark(13, CROSS);
        Check.same("19 torn as well", fence.hint(), 1);
        fence.mark(1, LINE);
        Check.same("19 a torn edge alone", fence.hint(), 12);
        fence.number(0, 0);
        Check.same("19 broken", fence.hint(), NONE);
        fence.lay(1, 1);
        fence.mark(0, LINE);
        Check.same("19 next to it", fence.hint(), 1);
        fence.markAll();
        Check.same("19 all decided", fence.hint(), NONE);
        fence.lay(2, 1);
        fence.mark(0, LINE);
        fence.mark(2, CROSS);
        Check.same("19 colour", fence.hint(), NONE);
    }
}
