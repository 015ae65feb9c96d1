import java.util.Arrays;

/**
 * A helper for fence puzzles: one closed loop is to be drawn along the edges of a board of cells, so that the
 * number in a cell, if it has one, tells how many of its four edges belong to the loop.
 *
 * <p>A set of edges is a long with bit k for the edge k. The rows of all classes are made once, for the largest
 * board, and used again, so that no call makes an object.
 */
public final class SlitherFence {
    public static final int NONE = -1;
    public static final int UNKNOWN = 0, LINE = 1, CROSS = 2;
    public static final int SOUND = 0, CELL = 1, POINT = 2, LOOP = 3, COLOUR = 4, TORN = 5;

    private static final int MOST_IN_LINE = 4;
    private static final int MOST_CELLS = 16;
    private static final int MOST_POINTS = 25;
    private static final int MOST_EDGES = 40;
    /** So many loops can be drawn on a board of 4 by 4 cells. */
    private static final int MOST_LOOPS = 9349;
    private static final int SIDES = 4;
    private static final int MOST_NUMBER = 3;
    private static final int RULES = 7;

    private final Board board;
    private final State state;
    private final Course course;
    private final Loops loops;
    private long lines;
    private long crosses;

    public SlitherFence() {
        board = new Board();
        state = new State(board);
        course = new Course(board, state);
        loops = new Loops(board);
        board.build(3, 3);
    }

    // ---- the board

    public void lay(int width, int height) throws IllegalArgumentException {
        if (width < 1 || width > MOST_IN_LINE || height < 1 || height > MOST_IN_LINE) {
            throw new IllegalArgumentException("width and height are 1 to 4");
        }
        board.build(width, height);
        loops.forget();
        unmark();
    }

    public int cells() {
        return board.cells;
    }

    public int edges() {
        return board.edges;
    }

    public int number(int cell, int number) throws IndexOutOfBoundsException, IllegalArgumentException {
        requireCell(cell);
        if (number != NONE && (number < 0 || number > MOST_NUMBER)) {
            throw new IllegalArgumentException("a number is 0 to 3, or NONE");
        }
        int before = board.number[cell];
        board.number[cell] = number;
        return before;
    }

    public int mark(int edge, int state) throws IndexOutOfBoundsException, IllegalArgumentException {
        requireEdge(edge);
        if (state != UNKNOWN && state != LINE && state != CROSS) {
            throw new IllegalArgumentException("a state is UNKNOWN, LINE or CROSS");
        }
        int before = stateIn(lines, crosses, edge);
        long bit = 1L << edge;
        lines = state == LINE ? lines | bit : lines & ~bit;
        crosses = state == CROSS ? crosses | bit : crosses & ~bit;
        return before;
    }

    public void wipe() {
        unmark();
    }

    public int markAll() {
        course.run(lines, crosses);
        if (course.end != SOUND) {
            return 0;
        }
        int before = Long.bitCount(lines | crosses);
        lines = course.lines;
        crosses = course.crosses;
        return Long.bitCount(lines | crosses) - before;
    }

    public int edgeOf(int cell, int side) throws IndexOutOfBoundsException {
        requireCell(cell);
        if (side < 0 || side >= SIDES) {
            throw new IndexOutOfBoundsException("no such side");
        }
        return board.edgeAt(cell, side);
    }

    // ---- the marks

    public int lines() {
        return Long.bitCount(lines);
    }

    public int ways() {
        int ways = 0;
        long rest = lines;
        for (int n = 0; n < MOST_EDGES && rest != 0L; n++) {
            rest &= ~board.firstWay(rest);
            ways++;
        }
        return ways;
    }

    public int broken() {
        state.look(lines, crosses);
        return state.reason();
    }

    public boolean isAnswer() {
        return board.isLoop(lines) && board.numbersAreRight(lines, NONE);
    }

    // ---- what follows

    public int follows(int edge) throws IndexOutOfBoundsException {
        requireEdge(edge);
        course.run(lines, crosses);
        return stateIn(course.lines, course.crosses, edge);
    }

    public int roundOf(int edge) throws IndexOutOfBoundsException {
        requireEdge(edge);
        course.run(lines, crosses);
        return course.roundBy[edge];
    }

    public int ruleOf(int edge) throws IndexOutOfBoundsException {
        requireEdge(edge);
        course.run(lines, crosses);
        return course.ruleBy[edge];
    }

    public int rounds() {
        course.run(lines, crosses);
        return course.count;
    }

    public int end() {
        course.run(lines, crosses);
        return course.end;
    }

    public int hint() {
        state.look(lines, crosses);
        if (state.reason() != SOUND) {
            return NONE;
        }
        state.askRules();
        long wanted = state.toLine | state.toCross;
        for (int edge = 0; edge < board.edges; edge++) {
            if (has(wanted, edge)) {
                return edge;
            }
        }
        return NONE;
    }

    // ---- answers

    public int answers() {
        return loops.countAnswers(lines, crosses, NONE);
    }

    public long answer(int answer) throws IndexOutOfBoundsException {
        return requireAnswer(answer);
    }

    public boolean isInside(int answer, int cell) throws IndexOutOfBoundsException {
        long loop = requireAnswer(answer);
        requireCell(cell);
        return Long.bitCount(loop & board.above[cell]) % 2 == 1;
    }

    public int proved(int edge) throws IndexOutOfBoundsException, IllegalStateException {
        requireEdge(edge);
        requireSomeAnswer();
        if (has(loops.linesOfAll(lines, crosses), edge)) {
            return LINE;
        }
        return has(loops.linesOfSome(lines, crosses), edge) ? UNKNOWN : CROSS;
    }

    public int beyondRules() throws IllegalStateException {
        requireSomeAnswer();
        long open = loops.linesOfSome(lines, crosses) & ~loops.linesOfAll(lines, crosses);
        course.run(lines, crosses);
        return Long.bitCount(board.allEdges & ~open & ~course.lines & ~course.crosses);
    }

    public boolean isNeeded(int cell) throws IndexOutOfBoundsException {
        requireCell(cell);
        return loops.countAnswers(lines, crosses, cell) > loops.countAnswers(lines, crosses, NONE);
    }

    // ---- helpers

    private void unmark() {
        lines = 0L;
        crosses = 0L;
    }

    private void requireCell(int cell) {
        if (cell < 0 || cell >= board.cells) {
            throw new IndexOutOfBoundsException("no such cell");
        }
    }

    private void requireEdge(int edge) {
        if (edge < 0 || edge >= board.edges) {
            throw new IndexOutOfBoundsException("no such edge");
        }
    }

    private long requireAnswer(int answer) {
        long loop = loops.findAnswer(lines, crosses, answer);
        if (loop == 0L) {
            throw new IndexOutOfBoundsException("there are not so many answers");
        }
        return loop;
    }

    private void requireSomeAnswer() {
        if (loops.findAnswer(lines, crosses, 0) == 0L) {
            throw new IllegalStateException("there is no answer");
        }
    }

    private static boolean has(long set, int edge) {
        return (set & 1L << edge) != 0L;
    }

    private static int stateIn(long lines, long crosses, int edge) {
        if (has(lines, edge)) {
            return LINE;
        }
        return has(crosses, edge) ? CROSS : UNKNOWN;
    }

    /** The cells with their numbers, and where edges, points and areas meet. Areas are the cells, then the outside. */
    private static final class Board {
        private final int[] number = new int[MOST_CELLS];
        private final long[] edgesOfArea = new long[MOST_CELLS + 1];
        private final long[] edgesOfPoint = new long[MOST_POINTS];
        private final int[] onePoint = new int[MOST_EDGES];
        private final int[] otherPoint = new int[MOST_EDGES];
        private final int[] oneArea = new int[MOST_EDGES];
        private final int[] otherArea = new int[MOST_EDGES];
        /** The point at the top left of each cell. */
        private final int[] corner = new int[MOST_CELLS];
        /** The edges between each cell and the outside, straight up from it. */
        private final long[] above = new long[MOST_CELLS];
        private int width;
        private int height;
        private int cells;
        private int points;
        private int edges;
        private int horizontals;
        private long allEdges;

        void build(int newWidth, int newHeight) {
            width = newWidth;
            height = newHeight;
            cells = width * height;
            points = (width + 1) * (height + 1);
            horizontals = width * (height + 1);
            edges = horizontals + (width + 1) * height;
            allEdges = (1L << edges) - 1L;
            Arrays.fill(number, NONE);
            Arrays.fill(edgesOfArea, 0L);
            Arrays.fill(edgesOfPoint, 0L);
            tieEdges();
            placeCells();
        }

        private void tieEdges() {
            for (int row = 0; row <= height; row++) {
                for (int column = 0; column < width; column++) {
                    int point = row * (width + 1) + column;
                    int edge = row * width + column;
                    tiePoints(edge, point, point + 1);
                    tieAreas(edge, areaAt(row - 1, column), areaAt(row, column));
                }
            }
            for (int row = 0; row < height; row++) {
                for (int column = 0; column <= width; column++) {
                    int point = row * (width + 1) + column;
                    int edge = horizontals + point;
                    tiePoints(edge, point, point + width + 1);
                    tieAreas(edge, areaAt(row, column - 1), areaAt(row, column));
                }
            }
        }

        private void tiePoints(int edge, int one, int other) {
            onePoint[edge] = one;
            otherPoint[edge] = other;
            edgesOfPoint[one] |= 1L << edge;
            edgesOfPoint[other] |= 1L << edge;
        }

        private void tieAreas(int edge, int one, int other) {
            oneArea[edge] = one;
            otherArea[edge] = other;
            edgesOfArea[one] |= 1L << edge;
            edgesOfArea[other] |= 1L << edge;
        }

        private int areaAt(int row, int column) {
            boolean onBoard = row >= 0 && row < height && column >= 0 && column < width;
            return onBoard ? row * width + column : cells;
        }

        private void placeCells() {
            for (int row = 0; row < height; row++) {
                for (int column = 0; column < width; column++) {
                    int cell = row * width + column;
                    corner[cell] = row * (width + 1) + column;
                    above[cell] = 1L << cell | (row > 0 ? above[cell - width] : 0L);
                }
            }
        }

        int edgeAt(int cell, int side) {
            switch (side) {
                case 0:
                    return cell;
                case 1:
                    return cell + width;
                case 2:
                    return horizontals + corner[cell];
                default:
                    return horizontals + corner[cell] + 1;
            }
        }

        boolean touches(long set, int point) {
            return (set & edgesOfPoint[point]) != 0L;
        }

        boolean hasFork(long set, int point) {
            return Long.bitCount(set & edgesOfPoint[point]) > 2;
        }

        boolean joinsPointsOf(long way, int edge) {
            return touches(way, onePoint[edge]) && touches(way, otherPoint[edge]);
        }

        /** The lines of the set that its first one is joined with; none if the set is empty. */
        long firstWay(long set) {
            long way = set & -set;
            long before = 0L;
            for (int n = 0; n < MOST_EDGES && way != before; n++) {
                before = way;
                for (int point = 0; point < points; point++) {
                    if ((way & edgesOfPoint[point]) != 0L) {
                        way |= set & edgesOfPoint[point];
                    }
                }
            }
            return way;
        }

        boolean isLoop(long set) {
            for (int point = 0; point < points; point++) {
                int ends = Long.bitCount(set & edgesOfPoint[point]);
                if (ends != 0 && ends != 2) {
                    return false;
                }
            }
            return set != 0L && firstWay(set) == set;
        }

        boolean numbersAreRight(long set, int ignoredCell) {
            for (int cell = 0; cell < cells; cell++) {
                if (cell != ignoredCell && number[cell] != NONE
                        && Long.bitCount(set & edgesOfArea[cell]) != number[cell]) {
                    return false;
                }
            }
            return true;
        }
    }

    /**
     * Areas in groups, as decided edges join them. In a group each area has one of two colours, and of two areas
     * that meet on a decided edge the colours differ if it is a line.
     */
    private static final class Colours {
        private final int[] group = new int[MOST_CELLS + 1];
        private final int[] colour = new int[MOST_CELLS + 1];
        private int areas;
        private boolean clash;

        void clear(int newAreas) {
            areas = newAreas;
            clash = false;
            for (int area = 0; area < areas; area++) {
                group[area] = area;
                colour[area] = 0;
            }
        }

        boolean areJoined(int one, int other) {
            return group[one] == group[other];
        }

        boolean differ(int one, int other) {
            return colour[one] != colour[other];
        }

        void join(int one, int other, boolean byLine) {
            if (areJoined(one, other)) {
                clash = clash || differ(one, other) != byLine;
                return;
            }
            int turn = differ(one, other) == byLine ? 0 : 1;
            int left = group[other];
            for (int area = 0; area < areas; area++) {
                if (group[area] == left) {
                    group[area] = group[one];
                    colour[area] ^= turn;
                }
            }
        }
    }

    /** A state of all edges: why it is broken, and what the rules want in it. */
    private static final class State {
        private final Board board;
        private final Colours colours = new Colours();
        /** By rule: the edges that it wants to be lines or crosses. */
        private final long[] wanted = new long[RULES + 1];
        private long lines;
        private long unknown;
        private long toLine;
        private long toCross;

        State(Board board) {
            this.board = board;
        }

        void look(long newLines, long newCrosses) {
            lines = newLines;
            unknown = board.allEdges & ~newLines & ~newCrosses;
            colours.clear(board.cells + 1);
            for (int edge = 0; edge < board.edges; edge++) {
                if (!has(unknown, edge)) {
                    colours.join(board.oneArea[edge], board.otherArea[edge], has(lines, edge));
                }
            }
        }

        int reason() {
            if (hasBrokenCell()) {
                return CELL;
            }
            if (hasBrokenPoint()) {
                return POINT;
            }
            if (hasBrokenLoop()) {
                return LOOP;
            }
            return colours.clash ? COLOUR : SOUND;
        }

        private boolean hasBrokenCell() {
            for (int cell = 0; cell < board.cells; cell++) {
                int number = board.number[cell];
                int sure = Long.bitCount(lines & board.edgesOfArea[cell]);
                int most = sure + Long.bitCount(unknown & board.edgesOfArea[cell]);
                if (number != NONE && (sure > number || most < number)) {
                    return true;
                }
            }
            return false;
        }

        private boolean hasBrokenPoint() {
            for (int point = 0; point < board.points; point++) {
                int sure = Long.bitCount(lines & board.edgesOfPoint[point]);
                if (sure > 2 || sure == 1 && !board.touches(unknown, point)) {
                    return true;
                }
            }
            return false;
        }

        /** As no point has more than two lines, what a loop's line is joined with is that loop alone. */
        private boolean hasBrokenLoop() {
            long rest = lines;
            for (int n = 0; n < MOST_EDGES && rest != 0L; n++) {
                long way = board.firstWay(rest);
                rest &= ~way;
                if (board.isLoop(way) && (way != lines || !board.numbersAreRight(lines, NONE))) {
                    return true;
                }
            }
            return false;
        }

        /** To be asked only in a state that is not broken. */
        void askRules() {
            Arrays.fill(wanted, 0L);
            toLine = 0L;
            toCross = 0L;
            askCells();
            askPoints();
            askWays();
            askColours();
        }

        private void want(int rule, int what, long edges) {
            long open = edges & unknown;
            wanted[rule] |= open;
            if (what == LINE) {
                toLine |= open;
            } else {
                toCross |= open;
            }
        }

        private void askCells() {
            for (int cell = 0; cell < board.cells; cell++) {
                long around = board.edgesOfArea[cell];
                int number = board.number[cell];
                int sure = Long.bitCount(lines & around);
                if (number != NONE && sure == number) {
                    want(1, CROSS, around);
                }
                if (number != NONE && sure + Long.bitCount(unknown & around) == number) {
                    want(2, LINE, around);
                }
            }
        }

        private void askPoints() {
            for (int point = 0; point < board.points; point++) {
                long around = board.edgesOfPoint[point];
                int sure = Long.bitCount(lines & around);
                int open = Long.bitCount(unknown & around);
                if (sure == 2) {
                    want(3, CROSS, around);
                }
                if (sure == 1 && open == 1) {
                    want(4, LINE, around);
                }
                if (sure == 0 && open == 1) {
                    want(5, CROSS, around);
                }
            }
        }

        private void askWays() {
            long rest = lines;
            for (int n = 0; n < MOST_EDGES && rest != 0L; n++) {
                long way = board.firstWay(rest);
                rest &= ~way;
                for (int edge = 0; edge < board.edges; edge++) {
                    long closed = lines | 1L << edge;
                    if (has(unknown, edge) && board.joinsPointsOf(way, edge)
                            && (!board.isLoop(closed) || !board.numbersAreRight(closed, NONE))) {
                        want(6, CROSS, 1L << edge);
                    }
                }
            }
        }

        private void askColours() {
            for (int edge = 0; edge < board.edges; edge++) {
                int one = board.oneArea[edge];
                int other = board.otherArea[edge];
                if (colours.areJoined(one, other)) {
                    want(7, colours.differ(one, other) ? LINE : CROSS, 1L << edge);
                }
            }
        }

        boolean isTorn() {
            return (toLine & toCross) != 0L;
        }

        int firstRuleFor(int edge) {
            for (int rule = 1; rule <= RULES; rule++) {
                if (has(wanted[rule], edge)) {
                    return rule;
                }
            }
            return NONE;
        }
    }

    /** The rounds from given marks on: the state that follows, and how each edge came by its state. */
    private static final class Course {
        private final Board board;
        private final State state;
        private final int[] roundBy = new int[MOST_EDGES];
        private final int[] ruleBy = new int[MOST_EDGES];
        private long lines;
        private long crosses;
        private int count;
        private int end;

        Course(Board board, State state) {
            this.board = board;
            this.state = state;
        }

        void run(long markedLines, long markedCrosses) {
            begin(markedLines, markedCrosses);
            boolean goesOn = true;
            // a round that goes on decides an edge, so there are fewer rounds than this
            for (int n = 0; n <= MOST_EDGES && goesOn; n++) {
                goesOn = playRound();
            }
        }

        private void begin(long markedLines, long markedCrosses) {
            lines = markedLines;
            crosses = markedCrosses;
            count = 0;
            end = SOUND;
            for (int edge = 0; edge < board.edges; edge++) {
                roundBy[edge] = has(lines | crosses, edge) ? 0 : NONE;
                ruleBy[edge] = NONE;
            }
        }

        /** Tells whether the round decided edges; if it did not, the rounds are over. */
        private boolean playRound() {
            state.look(lines, crosses);
            end = state.reason();
            if (end != SOUND) {
                return false;
            }
            state.askRules();
            if (state.isTorn()) {
                end = TORN;
                return false;
            }
            if ((state.toLine | state.toCross) == 0L) {
                return false;
            }
            decide();
            return true;
        }

        private void decide() {
            count++;
            lines |= state.toLine;
            crosses |= state.toCross;
            for (int edge = 0; edge < board.edges; edge++) {
                if (has(state.toLine | state.toCross, edge)) {
                    roundBy[edge] = count;
                    ruleBy[edge] = state.firstRuleFor(edge);
                }
            }
        }
    }

    /** All loops of the board, in the order in which answers are told, and which of them are answers. */
    private static final class Loops {
        private final Board board;
        private final long[] loops = new long[MOST_LOOPS];
        private int count;
        private boolean complete;

        Loops(Board board) {
            this.board = board;
        }

        /** To be called when the board is another one. */
        void forget() {
            complete = false;
        }

        private void find() {
            if (!complete) {
                count = 0;
                grow(this, 0, 0L);
                complete = true;
            }
        }

        /**
         * Takes each cell into the inside or leaves it out, row by row. That decides its top edge, and the top
         * edges decide all others, so that trying a line there ahead of no line finds the loops in their order.
         */
        private static void grow(Loops found, int cell, long set) {
            Board board = found.board;
            // all edges of that point are decided by now
            if (cell > 0 && board.hasFork(set, board.corner[cell - 1])) {
                return;
            }
            if (cell >= board.cells) {
                if (found.count < found.loops.length && board.isLoop(set)) {
                    found.loops[found.count] = set;
                    found.count++;
                }
                return;
            }
            long turned = set ^ board.edgesOfArea[cell];
            boolean lineOnTop = has(set, cell);
            grow(found, cell + 1, lineOnTop ? set : turned);
            grow(found, cell + 1, lineOnTop ? turned : set);
        }

        private boolean isAnswerFor(long lines, long crosses, int ignoredCell, long loop) {
            return (loop & lines) == lines && (loop & crosses) == 0L && board.numbersAreRight(loop, ignoredCell);
        }

        int countAnswers(long lines, long crosses, int ignoredCell) {
            find();
            int answers = 0;
            for (int n = 0; n < count; n++) {
                if (isAnswerFor(lines, crosses, ignoredCell, loops[n])) {
                    answers++;
                }
            }
            return answers;
        }

        /** The empty set if there are not so many answers. */
        long findAnswer(long lines, long crosses, int answer) {
            find();
            int answers = 0;
            for (int n = 0; n < count; n++) {
                if (isAnswerFor(lines, crosses, NONE, loops[n])) {
                    if (answers == answer) {
                        return loops[n];
                    }
                    answers++;
                }
            }
            return 0L;
        }

        /** All edges if there is no answer. */
        long linesOfAll(long lines, long crosses) {
            find();
            long all = board.allEdges;
            for (int n = 0; n < count; n++) {
                if (isAnswerFor(lines, crosses, NONE, loops[n])) {
                    all &= loops[n];
                }
            }
            return all;
        }

        long linesOfSome(long lines, long crosses) {
            find();
            long some = 0L;
            for (int n = 0; n < count; n++) {
                if (isAnswerFor(lines, crosses, NONE, loops[n])) {
                    some |= loops[n];
                }
            }
            return some;
        }
    }
}
