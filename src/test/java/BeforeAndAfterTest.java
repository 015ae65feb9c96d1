/**
 * What the calls answer before and after another call that changes the numbers, the marks or the board; that asking
 * changes nothing; and that nothing but the board, the numbers and the marks counts, whatever was called before.
 */
public final class BeforeAndAfterTest {
    private static final int NONE = SlitherFence.NONE;
    private static final int UNKNOWN = SlitherFence.UNKNOWN;
    private static final int LINE = SlitherFence.LINE;
    private static final int CROSS = SlitherFence.CROSS;
    private static final int SOUND = SlitherFence.SOUND;

    /** On a board of 2 by 1 cells: a drawing of nothing, and those of all answers. */
    private static final String BLANK = "+ + +/     /+ + +";
    private static final String BOTH = "+-+-+/|   |/+-+-+";
    private static final String LEFT = "+-+ +/| |  /+-+ +";
    private static final String RIGHT = "+ +-+/  | |/+ +-+";

    private static final String[][] BOARDS = {
        {"+ +", "   ", "+ +"},
        {"+ + +", " 3 1 ", "+ + +"},
        {"+ +", "|  ", "+ +", " 2 ", "+ +"},
        {"+ + +", " 2   ", "+x+ +", "   3 ", "+ + +"},
        {"+-+x+", "| |2x", "+-+x+"},
        {"+ + + +", " 3  |  ", "+ +x+ +", "     1 ", "+ + + +"},
        {"+ + + +", "   0   ", "+ + + +", "|   2  ", "+ + + +", "     3 ", "+ +-+ +"},
    };

    public static void main(String[] args) {
        story();
        storyFromWipe();
        storyOfLay();
        for (String[] rows : BOARDS) {
            askingChangesNothing(rows);
            askedFirst(rows);
            numberAfterAsking(rows);
            markAfterAsking(rows);
            wipeAfterAsking(rows);
            markAllAfterAsking(rows);
            layAfterAsking(rows);
        }
        twoObjects();
        Check.end();
    }

    // ---- one board, on which each call answers otherwise again and again

    private static void marks(SlitherFence fence, String when, int lines, int ways, int broken, boolean isAnswer) {
        Check.same("10 lines " + when, fence.lines(), lines);
        Check.same("11 ways " + when, fence.ways(), ways);
        Check.same("12 broken " + when, fence.broken(), broken);
        Check.same("13 isAnswer " + when, fence.isAnswer(), isAnswer);
    }

    private static void over(SlitherFence fence, String when, int rounds, int end, int hint) {
        Check.same("17 rounds " + when, fence.rounds(), rounds);
        Check.same("18 end " + when, fence.end(), end);
        Check.same("19 hint " + when, fence.hint(), hint);
    }

    private static void follows(SlitherFence fence, String when, String states, String byRound, String byRule) {
        Check.same("14 follows " + when, Drawing.follows(fence), states.replace('/', '\n'));
        Check.same("15 roundOf " + when, Drawing.rounds(fence), byRound.replace('/', '\n'));
        Check.same("16 ruleOf " + when, Drawing.rules(fence), byRule.replace('/', '\n'));
    }

    private static void answers(SlitherFence fence, String when, String proved, int beyondRules, String... loops) {
        Check.same("20 answers " + when, fence.answers(), loops.length);
        for (int answer = 0; answer < loops.length; answer++) {
            String loop = loops[answer];
            Check.same("21 answer " + answer + " " + when, Drawing.answer(fence, answer), loop.replace('/', '\n'));
            // on a board of one row the first cell is inside if its left edge is a line
            Check.same("22 isInside " + answer + " 0 " + when, fence.isInside(answer, 0), loop.contains("/|"));
        }
        Check.same("23 proved " + when, Drawing.proved(fence), proved.replace('/', '\n'));
        Check.same("24 beyondRules " + when, fence.beyondRules(), beyondRules);
    }

    private static void noAnswer(SlitherFence fence, String when) {
        Check.same("20 answers " + when, fence.answers(), 0);
        Check.same("21 answer " + when, Check.thrownBy(fence, made -> made.answer(0)),
                "java.lang.IndexOutOfBoundsException");
        Check.same("22 isInside " + when, Check.thrownBy(fence, made -> made.isInside(0, 0)),
                "java.lang.IndexOutOfBoundsException");
        Check.same("23 proved " + when, Check.thrownBy(fence, made -> made.proved(0)),
                "java.lang.IllegalStateException");
        Check.same("24 beyondRules " + when, Check.thrownBy(fence, made -> made.beyondRules()),
                "java.lang.IllegalStateException");
    }

    private static void needed(SlitherFence fence, String when, boolean... needed) {
        for (int cell = 0; cell < needed.length; cell++) {
            Check.same("25 isNeeded " + cell + " " + when, fence.isNeeded(cell), needed[cell]);
        }
    }

    private static void story() {
        SlitherFence fence = new SlitherFence();

        String when = "after lay";
        fence.lay(2, 1);
        marks(fence, when, 0, 0, SOUND, false);
        over(fence, when, 0, SOUND, NONE);
        follows(fence, when, BLANK, BLANK, BLANK);
        answers(fence, when, BLANK, 0, BOTH, LEFT, RIGHT);
        needed(fence, when, false, false);

        when = "after the first number";
        fence.number(0, 3);
        marks(fence, when, 0, 0, SOUND, false);
        over(fence, when, 0, SOUND, NONE);
        follows(fence, when, BLANK, BLANK, BLANK);
        answers(fence, when, "+-+-+/| x |/+-+-+", 7, BOTH);
        needed(fence, when, true, false);

        when = "after a cross";
        fence.mark(5, CROSS);
        marks(fence, when, 0, 0, SOUND, false);
        over(fence, when, 2, SOUND, 0);
        follows(fence, when, "+-+-+/| x |/+-+-+", "+1+2+/1 0 2/+1+2+", "+2+4+/2   7/+2+4+");
        answers(fence, when, "+-+-+/| x |/+-+-+", 0, BOTH);
        needed(fence, when, false, false);

        when = "after markAll";
        Check.same("8 markAll", fence.markAll(), 6);
        marks(fence, when, 6, 1, SOUND, true);
        over(fence, when, 0, SOUND, NONE);
        follows(fence, when, "+-+-+/| x |/+-+-+", "+0+0+/0 0 0/+0+0+", BLANK);
        answers(fence, when, "+-+-+/| x |/+-+-+", 0, BOTH);
        needed(fence, when, false, false);

        when = "after a number that breaks it";
        fence.number(1, 1);
        marks(fence, when, 6, 1, SlitherFence.CELL, false);
        over(fence, when, 0, SlitherFence.CELL, NONE);
        follows(fence, when, "+-+-+/| x |/+-+-+", "+0+0+/0 0 0/+0+0+", BLANK);
        noAnswer(fence, when);
        needed(fence, when, false, true);
        Check.same("8 markAll " + when, fence.markAll(), 0);
    }

    private static void storyFromWipe() {
        SlitherFence fence = asked("+-+-+", "|3x1|", "+-+-+");

        String when = "after wipe";
        fence.wipe();
        marks(fence, when, 0, 0, SOUND, false);
        over(fence, when, 0, SOUND, NONE);
        follows(fence, when, BLANK, BLANK, BLANK);
        noAnswer(fence, when);
        needed(fence, when, true, true);

        when = "after a number is taken away";
        fence.number(0, NONE);
        answers(fence, when, "+-+x+/| | x/+-+x+", 7, LEFT);
        needed(fence, when, false, true);

        when = "after a line that tears it";
        fence.mark(3, LINE);
        marks(fence, when, 1, 1, SOUND, false);
        over(fence, when, 0, SlitherFence.TORN, 1);
        follows(fence, when, "+ + +/     /+ +-+", "+ + +/     /+ +0+", BLANK);
        noAnswer(fence, when);
        needed(fence, when, false, true);
        Check.same("8 markAll " + when, fence.markAll(), 0);

        when = "after the last number is taken away";
        fence.number(1, NONE);
        marks(fence, when, 1, 1, SOUND, false);
        over(fence, when, 1, SOUND, 1);
        follows(fence, when, "+ +-+/    |/+ +-+", "+ +1+/    1/+ +0+", "+ +7+/    4/+ + +");
        answers(fence, when, "+ +-+/    |/+ +-+", 0, BOTH, RIGHT);
        needed(fence, when, false, false);

        when = "after the line is a cross";
        Check.same("6 the line before", fence.mark(3, CROSS), LINE);
        marks(fence, when, 0, 0, SOUND, false);
        over(fence, when, 1, SOUND, 1);
        follows(fence, when, "+ +x+/    x/+ +x+", "+ +1+/    1/+ +0+", "+ +7+/    5/+ + +");
        answers(fence, when, "+-+x+/| | x/+-+x+", 4, LEFT);
    }

    private static void storyOfLay() {
        SlitherFence fence = Drawing.fence("+ + +", "   3x", "+ + +");

        String when = "ahead of lay";
        over(fence, when, 0, SlitherFence.TORN, 1);
        noAnswer(fence, when);

        when = "after lay of the same board";
        fence.lay(2, 1);
        marks(fence, when, 0, 0, SOUND, false);
        over(fence, when, 0, SOUND, NONE);
        follows(fence, when, BLANK, BLANK, BLANK);
        answers(fence, when, BLANK, 0, BOTH, LEFT, RIGHT);

        when = "after lay of another board";
        fence.lay(1, 1);
        over(fence, when, 0, SOUND, NONE);
        follows(fence, when, "+ +/   /+ +", "+ +/   /+ +", "+ +/   /+ +");
        answers(fence, when, "+-+/| |/+-+", 4, "+-+/| |/+-+");
    }

    // ---- what an object answers that was asked for everything and changed then, is what a new one answers

    private static SlitherFence asked(String... rows) {
        SlitherFence fence = Drawing.fence(rows);
        Transcript.of(fence);
        return fence;
    }

    private static void likeNew(String what, SlitherFence changed, SlitherFence made) {
        Check.same(what, Transcript.of(changed), Transcript.of(made));
    }

    private static void askingChangesNothing(String... rows) {
        likeNew("asking " + String.join("/", rows), asked(rows), Drawing.fence(rows));
    }

    private interface Asked {
        long answer(SlitherFence fence, int edge);
    }

    /** Each call answers the same whether it is the first one that is asked, or others were asked ahead of it. */
    private static void askedFirst(String... rows) {
        Asked[] calls = {
            (fence, edge) -> fence.follows(edge),
            (fence, edge) -> fence.roundOf(edge),
            (fence, edge) -> fence.ruleOf(edge),
            (fence, edge) -> fence.rounds(),
            (fence, edge) -> fence.end(),
            (fence, edge) -> fence.hint(),
            (fence, edge) -> fence.broken(),
            (fence, edge) -> fence.answers(),
            (fence, edge) -> fence.answers() == 0 ? 0L : fence.answer(0),
            (fence, edge) -> fence.answers() == 0 ? 0 : fence.proved(edge),
            (fence, edge) -> fence.isNeeded(edge % fence.cells()) ? 1L : 0L,
            (fence, edge) -> fence.markAll(),
        };
        int edges = Drawing.fence(rows).edges();
        for (int call = 0; call < calls.length; call++) {
            for (int edge = 0; edge < edges; edge++) {
                String what = "call " + call + " asked first, of " + edge + " on " + String.join("/", rows);
                long first = calls[call].answer(Drawing.fence(rows), edge);
                Check.same(what, first, calls[call].answer(asked(rows), edge));
                // a whole board was asked for, and this one was made over it
                Check.same(what + ", on a changed board", first, calls[call].answer(made(rows, edge), edge));
            }
        }
    }

    /** The board that is drawn, made out of another one that was asked, with the mark of the edge put last. */
    private static SlitherFence made(String[] rows, int last) {
        SlitherFence wanted = Drawing.fence(rows);
        SlitherFence fence = asked("+-+-+", "|2 3|", "+ +x+", "   1 ", "+ + +");
        fence.lay(rows[0].length() / 2, rows.length / 2);
        for (int cell = 0; cell < wanted.cells(); cell++) {
            fence.number(cell, wanted.number(cell, NONE));
        }
        for (int edge = 0; edge < wanted.edges(); edge++) {
            fence.mark(edge, edge == last ? CROSS : Check.markOf(wanted, edge));
        }
        fence.end();
        fence.mark(last, Check.markOf(wanted, last));
        return fence;
    }

    private static void numberAfterAsking(String... rows) {
        SlitherFence any = Drawing.fence(rows);
        for (int cell = 0; cell < any.cells(); cell++) {
            for (int number = NONE; number <= 3; number++) {
                String what = "5 number " + cell + " " + number + " on " + String.join("/", rows);
                SlitherFence changed = asked(rows);
                changed.number(cell, number);
                likeNew(what, changed, Drawing.fence(drawnNumber(rows, cell, number)));
                changed = asked(rows);
                int before = changed.number(cell, number);
                Check.same(what + ", put back", changed.number(cell, before), number);
                likeNew(what + ", and back", changed, Drawing.fence(rows));
            }
        }
    }

    private static String[] drawnNumber(String[] rows, int cell, int number) {
        int width = rows[0].length() / 2;
        char sign = number == NONE ? ' ' : (char) ('0' + number);
        return drawnSign(rows, cell / width * 2 + 1, cell % width * 2 + 1, sign);
    }

    private static String[] drawnSign(String[] rows, int row, int column, char sign) {
        String[] drawn = rows.clone();
        drawn[row] = rows[row].substring(0, column) + sign + rows[row].substring(column + 1);
        return drawn;
    }

    private static void markAfterAsking(String... rows) {
        int width = rows[0].length() / 2;
        for (int edge = 0; edge < Drawing.fence(rows).edges(); edge++) {
            int behind = edge - width * (rows.length / 2 + 1);
            int row = behind < 0 ? edge / width * 2 : behind / (width + 1) * 2 + 1;
            int column = behind < 0 ? edge % width * 2 + 1 : behind % (width + 1) * 2;
            for (int state = UNKNOWN; state <= CROSS; state++) {
                String what = "6 mark " + edge + " " + state + " on " + String.join("/", rows);
                SlitherFence changed = asked(rows);
                changed.mark(edge, state);
                likeNew(what, changed, Drawing.fence(drawnSign(rows, row, column, " -x".charAt(state))));
                changed = asked(rows);
                int before = changed.mark(edge, state);
                Check.same(what + ", put back", changed.mark(edge, before), state);
                likeNew(what + ", and back", changed, Drawing.fence(rows));
            }
        }
    }

    private static void wipeAfterAsking(String... rows) {
        SlitherFence changed = asked(rows);
        changed.wipe();
        SlitherFence made = Drawing.fence(rows);
        for (int edge = 0; edge < made.edges(); edge++) {
            made.mark(edge, UNKNOWN);
        }
        likeNew("7 wipe " + String.join("/", rows), changed, made);
    }

    private static void markAllAfterAsking(String... rows) {
        String what = "8 markAll " + String.join("/", rows);
        SlitherFence changed = asked(rows);
        SlitherFence made = Drawing.fence(rows);
        int became = 0;
        if (changed.end() == SOUND) {
            for (int edge = 0; edge < made.edges(); edge++) {
                int follows = changed.follows(edge);
                became += made.mark(edge, follows) == follows ? 0 : 1;
            }
        }
        Check.same(what, changed.markAll(), became);
        likeNew(what, changed, made);
    }

    private static void layAfterAsking(String... rows) {
        for (int width = 1; width <= 4; width++) {
            for (int height = 1; height <= 4; height += width == 4 ? 2 : 1) {
                SlitherFence changed = asked(rows);
                changed.lay(width, height);
                SlitherFence made = Check.board(width, height);
                likeNew("2 lay " + width + " " + height + " over " + String.join("/", rows), changed, made);
            }
        }
    }

    private static void twoObjects() {
        SlitherFence one = Drawing.fence("+ + +", " 3   ", "+ + +");
        String before = Transcript.of(one);
        SlitherFence other = Drawing.fence("+-+", "|  ", "+ +");
        other.markAll();
        other.lay(4, 4);
        other.number(0, 1);
        Check.same("1 one object is not changed by another", Transcript.of(one), before);
        likeNew("1 a new object has nothing of another", new SlitherFence(), Check.board(3, 3));
    }
}
