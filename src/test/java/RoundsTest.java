/**
 * Promises 14 to 19 by drawings: rules at points of two, three and four edges, each two rules that can want the same
 * of an edge or the opposite, and the rounds up to each reason for which they can be over.
 */
public final class RoundsTest {
    private static final int LINE = SlitherFence.LINE;
    private static final int CROSS = SlitherFence.CROSS;

    public static void main(String[] args) {
        rulesAtPoints();
        firstOfTwoRules();
        tornBetweenTwoRules();
        overInALaterRound();
        manyRounds();
        markAllTakesWhatFollows();
        Check.end();
    }

    /** The drawings that are due have '/' between their rows. */
    private static void follows(int rounds, int end, String states, String byRound, String byRule, String... rows) {
        String name = String.join("/", rows);
        SlitherFence fence = Drawing.fence(rows);
        Check.same("14 follows of " + name, Drawing.follows(fence), states.replace('/', '\n'));
        Check.same("15 roundOf of " + name, Drawing.rounds(fence), byRound.replace('/', '\n'));
        Check.same("16 ruleOf of " + name, Drawing.rules(fence), byRule.replace('/', '\n'));
        Check.same("17 rounds of " + name, fence.rounds(), rounds);
        Check.same("18 end of " + name, fence.end(), end);
    }

    private static void rulesAtPoints() {
        // rule 3 at the side: the edge between the cells
        follows(1, SlitherFence.SOUND, "+-+-+/| x |/+-+-+", "+0+0+/1 1 1/+1+1+", "+ + +/4 3 4/+7+7+",
                "+-+-+", "     ", "+ + +");
        // rule 4 at corners and at the side, rule 5 at a corner
        follows(1, SlitherFence.SOUND, "+-+x+/| | x/+-+x+", "+0+0+/1 1 1/+1+1+", "+ + +/4 4 5/+7+7+",
                "+-+x+", "     ", "+ + +");
        // rule 5 at corners and at the side
        follows(1, SlitherFence.SOUND, "+x+x+/x x x/+x+x+", "+0+0+/1 1 1/+1+1+", "+ + +/5 5 5/+7+7+",
                "+x+x+", "     ", "+ + +");
        // rules 3, 4 and 5 in the middle
        follows(1, SlitherFence.SOUND, "+ + +/  |  /+x+x+/  |  /+ + +", "+ + +/  0  /+1+1+/  0  /+ + +",
                "+ + +/     /+3+3+/     /+ + +", "+ + +", "  |  ", "+ + +", "  |  ", "+ + +");
        follows(1, SlitherFence.SOUND, "+ + +/  |  /+x+x+/  |  /+ + +", "+ + +/  0  /+0+0+/  1  /+ + +",
                "+ + +/     /+ + +/  4  /+ + +", "+ + +", "  |  ", "+x+x+", "     ", "+ + +");
        follows(1, SlitherFence.SOUND, "+ + +/  x  /+x+x+/  x  /+ + +", "+ + +/  0  /+0+0+/  1  /+ + +",
                "+ + +/     /+ + +/  5  /+ + +", "+ + +", "  x  ", "+x+x+", "     ", "+ + +");
        // one edge less is known at that point: nothing follows
        follows(0, SlitherFence.SOUND, "+ + +/  |  /+x+ +/     /+ + +", "+ + +/  0  /+0+ +/     /+ + +",
                "+ + +/     /+ + +/     /+ + +", "+ + +", "  |  ", "+x+ +", "     ", "+ + +");
        follows(0, SlitherFence.SOUND, "+ + +/  x  /+x+ +/     /+ + +", "+ + +/  0  /+0+ +/     /+ + +",
                "+ + +/     /+ + +/     /+ + +", "+ + +", "  x  ", "+x+ +", "     ", "+ + +");
    }

    private static void first(int rule, int edge, int state, String... rows) {
        String name = edge + " of " + String.join("/", rows);
        SlitherFence fence = Drawing.fence(rows);
        Check.same("14 follows " + name, fence.follows(edge), state);
        Check.same("15 roundOf " + name, fence.roundOf(edge), 1);
        Check.same("16 ruleOf " + name, fence.ruleOf(edge), rule);
    }

    private static void firstOfTwoRules() {
        // 1 and 3; 1, 5 and 7; 1 and 6; 1 and 7
        first(1, 3, CROSS, "+ + +", "   0 ", "+-+ +", "  |  ", "+ + +");
        first(1, 2, CROSS, "+ +", " 0 ", "+x+");
        first(1, 1, CROSS, "+-+", "| |", "+ +", " 0 ", "+ +");
        first(1, 0, CROSS, "+ +", " 0 ", "+x+");
        // 2, 4 and 7; 2 and 7
        first(2, 2, LINE, "+ +", "   ", "+x+", "|3 ", "+ +");
        first(2, 10, LINE, "+ +x+ +", "|  3   ", "+ + + +", "       ", "+ + + +");
        // 3, 5 and 7; 3 and 6; 3 and 7
        first(3, 1, CROSS, "+-+ +", "  | x", "+ + +");
        first(3, 2, CROSS, "+ + +", "  |  ", "+ + +", "| |  ", "+-+ +");
        first(3, 5, CROSS, "+-+-+", "     ", "+ + +");
        // 4 and 7; 5 and 7; 6 and 7; 7 alone
        first(4, 0, LINE, "+ +", "|  ", "+ +");
        first(5, 2, CROSS, "+ +", "   ", "+x+");
        first(6, 5, CROSS, "+ +-+", "|   |", "+ +-+");
        first(7, 3, LINE, "+ +", "|  ", "+ +");
    }

    private static void torn(int hint, String... rows) {
        String name = String.join("/", rows);
        SlitherFence fence = Drawing.fence(rows);
        String before = Transcript.of(fence);
        Check.same("12 broken of " + name, fence.broken(), SlitherFence.SOUND);
        Check.same("17 rounds of " + name, fence.rounds(), 0);
        Check.same("18 end of " + name, fence.end(), SlitherFence.TORN);
        Check.same("19 hint of " + name, fence.hint(), hint);
        Check.same("20 answers of " + name, fence.answers(), 0);
        Check.same("8 markAll of " + name, fence.markAll(), 0);
        Check.same("8 markAll leaves " + name, Transcript.of(fence), before);
        for (int edge = 0; edge < fence.edges(); edge++) {
            Check.same("14 follows " + edge + " of " + name, fence.follows(edge), Check.markOf(fence, edge));
        }
    }

    private static void tornBetweenTwoRules() {
        // 1 and 2; 1 and 4; 1 and 7
        torn(0, "+ +", " 0 ", "+ +", " 3 ", "+x+", "   ", "+ +");
        torn(1, "+ +", "   ", "+ +", "|2|", "+ +");
        torn(0, "+ +x+", "   0 ", "+-+ +");
        // 2 and 3; 2 and 5; 2 and 6; 2 and 7
        torn(2, "+ +x+", "   2x", "+ +-+", "  |  ", "+ + +");
        torn(1, "+x+", "x2 ", "+ +", "   ", "+ +");
        torn(1, "+-+ + +", "|  3x  ", "+-+ + +");
        torn(1, "+ +", "   ", "+ +", " 3x", "+ +", "   ", "+ +");
        // 4 and 6; 6 and 7
        torn(2, "+-+", "|  ", "+-+", " 3 ", "+ +");
        torn(0, "+ +", "   ", "+-+", "  |", "+-+", " 2 ", "+ +");
    }

    private static void overInALaterRound() {
        follows(1, SlitherFence.CELL, "+x+/x x/+x+", "+1+/0 1/+1+", "+5+/  7/+5+", "+ +", "x1 ", "+ +");
        follows(1, SlitherFence.POINT, "+-+x+/| x x/+-+x+", "+0+1+/1 1 1/+1+1+", "+ +1+/4 1 1/+7+1+",
                "+-+ +", "   0 ", "+ + +");
        follows(1, SlitherFence.LOOP, "+-+/| |/+-+/x x/+-+/| |/+-+", "+1+/0 1/+0+/1 1/+1+/1 1/+0+",
                "+4+/  7/+ +/3 7/+7+/4 4/+ +", "+ +", "|  ", "+-+", "   ", "+ +", "   ", "+-+");
        follows(1, SlitherFence.COLOUR, "+x+/x x/+x+/   /+-+/x x/+x+", "+1+/1 1/+1+/   /+0+/1 1/+1+",
                "+1+/1 1/+1+/   /+ +/1 1/+1+", "+ +", " 0 ", "+ +", "   ", "+-+", " 1 ", "+ +");
        follows(1, SlitherFence.TORN, "+ +/   /+x+/x x/+x+", "+ +/   /+1+/1 1/+1+", "+ +/   /+1+/1 1/+1+",
                "+ +", " 3 ", "+ +", " 0 ", "+ +");
        follows(2, SlitherFence.TORN, "+x+ +/x |  /+x+ +", "+1+ +/1 2  /+0+ +", "+7+ +/5 2  /+ + +",
                "+ + +", " 1 1 ", "+x+ +");
        // what the marks alone answer is not what the rounds end with
        SlitherFence fence = Drawing.fence("+ +", "x1 ", "+ +");
        Check.same("12 the marks are sound", fence.broken(), SlitherFence.SOUND);
        Check.same("19 the marks have a hint", fence.hint(), 0);
        Check.same("8 the rounds end broken", fence.markAll(), 0);
        Check.same("8 nothing is marked", fence.roundOf(0), 1);
    }

    private static void manyRounds() {
        SlitherFence fence = Drawing.fence("+ + + + +", " 1 3 1   ", "+ + + + +", " 0 2     ", "+ + + + +",
                " 1     2 ", "+ + + + +", " 3 2 1 3 ", "+ + + + +");
        Check.same("17 many rounds", fence.rounds(), 21);
        Check.same("18 the end of many rounds", fence.end(), SlitherFence.SOUND);
        int last = 0;
        for (int edge = 0; edge < 40; edge++) {
            last = Math.max(last, fence.roundOf(edge));
        }
        Check.same("15 some edge is decided in the last one of many rounds", last, 21);
        Check.same("14 what many rounds decide", Drawing.follows(fence), String.join("\n",
                "+x+-+-+-+", "x | x x |", "+x+-+x+-+", "x x | | x", "+x+x+x+x+",
                "x x | | x", "+-+-+x+-+", "| x x x |", "+-+-+-+-+"));
        Check.same("8 markAll of many rounds", fence.markAll(), 40);
        Check.same("13 an answer by it", fence.isAnswer(), true);
    }

    private static void markAllTakesWhatFollows() {
        // some edges, not all of them: the last cell stays open
        SlitherFence fence = Drawing.fence("+ + +", " 0   ", "+ + +", "     ", "+ + +");
        String follows = Drawing.follows(fence);
        Check.same("14 what follows", follows, "+x+x+/x x x/+x+ +/x    /+x+ +".replace('/', '\n'));
        Check.same("8 how many", fence.markAll(), 8);
        Check.same("8 what followed is marked", Drawing.follows(fence), follows);
        Check.same("15 it counts as marked", Drawing.rounds(fence), "+0+0+/0 0 0/+0+ +/0    /+0+ +".replace('/', '\n'));
        Check.same("16 by no rule", Drawing.rules(fence), "+ + +/     /+ + +/     /+ + +".replace('/', '\n'));
        Check.same("17 no rounds are left", fence.rounds(), 0);
        Check.same("8 how many again", fence.markAll(), 0);
        // an edge that was marked is not one that became marked
        fence = Drawing.fence("+-+x+", "| |  ", "+ + +");
        Check.same("8 those that were unknown", fence.markAll(), 3);
        Check.same("10 lines by it", fence.lines(), 4);
    }
}
