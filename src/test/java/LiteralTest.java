import java.util.ArrayList;
import java.util.Arrays;
import java.util.List;
import java.util.Random;

/**
 * Promises 8 and 10 to 25 in the document's own words, taken without any shortcut, on every state of the two smallest
 * boards and on random states of all boards. COLOUR and rule 7 go along all rings and chains of areas, in which no area
 * comes twice (two areas want two edges); a loop is gone along from point to point; rule 6 looks at all lines together.
 * More states: `java LiteralTest 160000` where the tests are compiled.
 */
public final class LiteralTest {
    private static final int NONE = -1;
    private static final int UNKNOWN = 0;
    private static final int LINE = 1;
    private static final int CROSS = 2;
    private static final int RANDOM_STATES = 1600;
    private static final int RULES = 7;
    private static final int BOARDS = 16;

    private final int width;
    private final int height;
    private final int cells;
    private final int edges;
    private final int[] numbers;
    private final int[] marks;
    /** By edge: the two points where it ends, and the two areas that meet on it; the outside is the last area. */
    private final int[][] ends;
    private final int[][] areas;
    private final List<List<Integer>> edgesOfPoint = new ArrayList<>();
    private final List<List<Integer>> edgesOfArea = new ArrayList<>();
    /** All sets of edges that are loops, in the order in which answers are told. */
    private final List<Long> loops = new ArrayList<>();

    // what follows, of the last rounds
    private int[] followed;
    private int[] round;
    private int[] rule;
    private int rounds;
    private int end;
    private int hint;

    private LiteralTest(int width, int height) {
        this.width = width;
        this.height = height;
        cells = width * height;
        int horizontals = width * (height + 1);
        edges = horizontals + (width + 1) * height;
        numbers = new int[cells];
        marks = new int[edges];
        ends = new int[edges][];
        areas = new int[edges][];
        for (int edge = 0; edge < edges; edge++) {
            int behind = edge - horizontals;
            int row = behind < 0 ? edge / width : behind / (width + 1);
            int column = behind < 0 ? edge % width : behind % (width + 1);
            int point = row * (width + 1) + column;
            ends[edge] = new int[] {point, behind < 0 ? point + 1 : point + width + 1};
            areas[edge] = new int[] {behind < 0 ? area(row - 1, column) : area(row, column - 1), area(row, column)};
        }
        collect(edgesOfPoint, (width + 1) * (height + 1), ends);
        collect(edgesOfArea, cells + 1, areas);
        for (int start = 0; start < edgesOfPoint.size(); start++) {
            goAlong(start, start, new boolean[edgesOfPoint.size()], NONE, 0L);
        }
        loops.sort(LiteralTest::inOrder);
    }

    private int area(int row, int column) {
        return row >= 0 && row < height && column >= 0 && column < width ? row * width + column : cells;
    }

    private static void collect(List<List<Integer>> lists, int count, int[][] pairs) {
        for (int n = 0; n < count; n++) {
            lists.add(new ArrayList<>());
            for (int edge = 0; edge < pairs.length; edge++) {
                if (pairs[edge][0] == n || pairs[edge][1] == n) {
                    lists.get(n).add(edge);
                }
            }
        }
    }

    private static int other(int[] pair, int one) {
        return pair[0] == one ? pair[1] : pair[0];
    }

    /** Each loop is found from its first point, by the one of its two edges there that has the lower number. */
    private void goAlong(int start, int at, boolean[] met, int first, long lines) {
        for (int edge : edgesOfPoint.get(at)) {
            int next = other(ends[edge], at);
            if ((lines >> edge & 1L) != 0L || next < start || met[next]) {
                continue;
            }
            if (next == start) {
                if (first < edge) {
                    loops.add(lines | 1L << edge);
                }
                continue;
            }
            met[next] = true;
            goAlong(start, next, met, first == NONE ? edge : first, lines | 1L << edge);
            met[next] = false;
        }
    }

    private static int inOrder(long one, long other) {
        for (int edge = 0; edge < 40; edge++) {
            long has = one >> edge & 1L;
            if (has != (other >> edge & 1L)) {
                return has == 1L ? -1 : 1;
            }
        }
        return 0;
    }

    // ---- the terms

    private static int count(int[] state, List<Integer> of, int what) {
        int count = 0;
        for (int edge : of) {
            count += state[edge] == what ? 1 : 0;
        }
        return count;
    }

    private static long linesOf(int[] state) {
        long lines = 0L;
        for (int edge = 0; edge < state.length; edge++) {
            lines |= state[edge] == LINE ? 1L << edge : 0L;
        }
        return lines;
    }

    private boolean numbersAreRight(long loop, int besides) {
        for (int cell = 0; cell < cells; cell++) {
            int has = 0;
            for (int edge : edgesOfArea.get(cell)) {
                has += (int) (loop >> edge & 1L);
            }
            if (cell != besides && numbers[cell] != NONE && numbers[cell] != has) {
                return false;
            }
        }
        return true;
    }

    private boolean isRightLoop(long lines) {
        return loops.contains(lines) && numbersAreRight(lines, NONE);
    }

    private int reason(int[] state) {
        for (int cell = 0; cell < cells; cell++) {
            int lines = count(state, edgesOfArea.get(cell), LINE);
            int unknown = count(state, edgesOfArea.get(cell), UNKNOWN);
            if (numbers[cell] != NONE && (lines > numbers[cell] || lines + unknown < numbers[cell])) {
                return SlitherFence.CELL;
            }
        }
        for (List<Integer> there : edgesOfPoint) {
            int lines = count(state, there, LINE);
            if (lines == 3 || lines == 4 || lines == 1 && count(state, there, UNKNOWN) == 0) {
                return SlitherFence.POINT;
            }
        }
        long lines = linesOf(state);
        for (long loop : loops) {
            if ((loop & ~lines) == 0L && (loop != lines || !numbersAreRight(lines, NONE))) {
                return SlitherFence.LOOP;
            }
        }
        for (int start = 0; start <= cells; start++) {
            if (hasOddRing(state, start, start, new boolean[cells + 1], NONE, 0)) {
                return SlitherFence.COLOUR;
            }
        }
        return SlitherFence.SOUND;
    }

    /** A ring of areas, told from the lowest one on; of two areas, it wants two edges. */
    private boolean hasOddRing(int[] state, int start, int at, boolean[] met, int by, int lines) {
        met[at] = true;
        for (int edge : edgesOfArea.get(at)) {
            int next = other(areas[edge], at);
            int then = lines + (state[edge] == LINE ? 1 : 0);
            boolean goes = state[edge] != UNKNOWN && edge != by && next >= start;
            boolean odd = next == start ? goes && then % 2 == 1
                    : goes && !met[next] && hasOddRing(state, start, next, met, edge, then);
            if (odd) {
                return true;
            }
        }
        met[at] = false;
        return false;
    }

    /** By 0 and 1: whether a chain of areas has an even or an odd number of lines. */
    private void chains(int[] state, int at, int to, boolean[] met, int lines, boolean[] found) {
        if (at == to) {
            found[lines % 2] = true;
            return;
        }
        met[at] = true;
        for (int edge : edgesOfArea.get(at)) {
            int next = other(areas[edge], at);
            if (state[edge] != UNKNOWN && !met[next]) {
                chains(state, next, to, met, lines + (state[edge] == LINE ? 1 : 0), found);
            }
        }
        met[at] = false;
    }

    private boolean areJoined(int[] state, int at, int to, boolean[] met) {
        met[at] = true;
        for (int edge : edgesOfPoint.get(at)) {
            int next = other(ends[edge], at);
            if (state[edge] == LINE && (next == to || !met[next] && areJoined(state, next, to, met))) {
                return true;
            }
        }
        return false;
    }

    // ---- rules: wants[edge][rule] is UNKNOWN, or what the rule wants the edge to be

    private int[][] wants(int[] state) {
        int[][] wants = new int[edges][RULES + 1];
        for (int edge = 0; edge < edges; edge++) {
            if (state[edge] == UNKNOWN) {
                askCells(state, edge, wants[edge]);
                askPoints(state, edge, wants[edge]);
                askWay(state, edge, wants[edge]);
                askChains(state, edge, wants[edge]);
            }
        }
        return wants;
    }

    private void askCells(int[] state, int edge, int[] wants) {
        for (int area : areas[edge]) {
            if (area == cells || numbers[area] == NONE) {
                continue;
            }
            int lines = count(state, edgesOfArea.get(area), LINE);
            if (lines == numbers[area]) {
                wants[1] = CROSS;
            }
            if (lines + count(state, edgesOfArea.get(area), UNKNOWN) == numbers[area]) {
                wants[2] = LINE;
            }
        }
    }

    private void askPoints(int[] state, int edge, int[] wants) {
        for (int point : ends[edge]) {
            int lines = count(state, edgesOfPoint.get(point), LINE);
            int unknown = count(state, edgesOfPoint.get(point), UNKNOWN);
            if (lines == 2) {
                wants[3] = CROSS;
            }
            if (lines == 1 && unknown == 1) {
                wants[4] = LINE;
            }
            if (lines == 0 && unknown == 1) {
                wants[5] = CROSS;
            }
        }
    }

    private void askWay(int[] state, int edge, int[] wants) {
        boolean joined = areJoined(state, ends[edge][0], ends[edge][1], new boolean[edgesOfPoint.size()]);
        if (joined && !isRightLoop(linesOf(state) | 1L << edge)) {
            wants[6] = CROSS;
        }
    }

    private void askChains(int[] state, int edge, int[] wants) {
        boolean[] found = new boolean[2];
        chains(state, areas[edge][0], areas[edge][1], new boolean[cells + 1], 0, found);
        Check.same("all chains agree " + this, found[0] && found[1], false);
        if (found[1]) {
            wants[7] = LINE;
        } else if (found[0]) {
            wants[7] = CROSS;
        }
    }

    private static boolean wantsSome(int[] wants, int what) {
        return Arrays.stream(wants).anyMatch(wanted -> wanted == what);
    }

    // ---- what is compared

    @Override
    public String toString() {
        return width + "x" + height + " numbers " + Arrays.toString(numbers) + " marks " + Arrays.toString(marks);
    }

    private SlitherFence fence() {
        SlitherFence fence = Check.board(width, height);
        for (int cell = 0; cell < cells; cell++) {
            fence.number(cell, numbers[cell]);
        }
        for (int edge = 0; edge < edges; edge++) {
            fence.mark(edge, marks[edge]);
        }
        return fence;
    }

    private void compare() {
        SlitherFence fence = fence();
        compareMarks(fence);
        compareAnswers(fence);
        follow();
        compareRounds(fence);
        compareBeyond(fence);
        compareMarkAll(fence);
    }

    private void compareMarks(SlitherFence fence) {
        long lines = linesOf(marks);
        Check.same("10 lines " + this, fence.lines(), Long.bitCount(lines));
        Check.same("12 broken " + this, fence.broken(), reason(marks));
        Check.same("13 isAnswer " + this, fence.isAnswer(), isRightLoop(lines));
        Check.same("11 ways " + this, fence.ways(), ways());
    }

    private int ways() {
        int ways = 0;
        boolean[] told = new boolean[edgesOfPoint.size()];
        for (int edge = 0; edge < edges; edge++) {
            int start = ends[edge][0];
            if (marks[edge] == LINE && !told[start]) {
                ways++;
                for (int point = 0; point < told.length; point++) {
                    told[point] |= point == start || areJoined(marks, start, point, new boolean[told.length]);
                }
            }
        }
        return ways;
    }

    // ---- what follows

    private void follow() {
        followed = marks.clone();
        round = new int[edges];
        rule = new int[edges];
        for (int edge = 0; edge < edges; edge++) {
            round[edge] = marks[edge] == UNKNOWN ? NONE : 0;
            rule[edge] = NONE;
        }
        rounds = 0;
        hint = NONE;
        boolean more = true;
        while (more) {
            end = reason(followed);
            more = end == SlitherFence.SOUND && playRound(wants(followed));
        }
    }

    private boolean playRound(int[][] wants) {
        boolean wanted = false;
        for (int edge = edges - 1; edge >= 0; edge--) {
            boolean toLine = wantsSome(wants[edge], LINE);
            boolean toCross = wantsSome(wants[edge], CROSS);
            wanted |= toLine || toCross;
            end = toLine && toCross ? SlitherFence.TORN : end;
            hint = rounds == 0 && (toLine || toCross) ? edge : hint;
        }
        if (!wanted || end == SlitherFence.TORN) {
            return false;
        }
        rounds++;
        for (int edge = 0; edge < edges; edge++) {
            // from the last rule on, so that the first one is what is left
            for (int n = RULES; n >= 1; n--) {
                if (wants[edge][n] != UNKNOWN) {
                    followed[edge] = wants[edge][n];
                    round[edge] = rounds;
                    rule[edge] = n;
                }
            }
        }
        return true;
    }

    private void compareRounds(SlitherFence fence) {
        Check.same("17 rounds " + this, fence.rounds(), rounds);
        Check.same("18 end " + this, fence.end(), end);
        Check.same("19 hint " + this, fence.hint(), hint);
        for (int edge = 0; edge < edges; edge++) {
            Check.same("14 follows " + edge + " " + this, fence.follows(edge), followed[edge]);
            Check.same("15 roundOf " + edge + " " + this, fence.roundOf(edge), round[edge]);
            Check.same("16 ruleOf " + edge + " " + this, fence.ruleOf(edge), rule[edge]);
        }
    }

    private void compareMarkAll(SlitherFence fence) {
        int[] then = end == SlitherFence.SOUND ? followed : marks;
        int became = 0;
        for (int edge = 0; edge < edges; edge++) {
            became += then[edge] != marks[edge] ? 1 : 0;
        }
        Check.same("8 markAll " + this, fence.markAll(), became);
        for (int edge = 0; edge < edges; edge++) {
            Check.same("8 markAll, then " + edge + " " + this, Check.markOf(fence, edge), then[edge]);
        }
    }

    private List<Long> answers(int besides) {
        List<Long> answers = new ArrayList<>();
        for (long loop : loops) {
            boolean fits = numbersAreRight(loop, besides);
            for (int edge = 0; edge < edges; edge++) {
                boolean has = (loop >> edge & 1L) == 1L;
                fits = fits && !(has && marks[edge] == CROSS) && !(!has && marks[edge] == LINE);
            }
            if (fits) {
                answers.add(loop);
            }
        }
        return answers;
    }

    private static int proved(List<Long> answers, int edge) {
        boolean all = true;
        boolean none = true;
        for (long answer : answers) {
            boolean has = (answer >> edge & 1L) == 1L;
            all = all && has;
            none = none && !has;
        }
        return all ? LINE : none ? CROSS : UNKNOWN;
    }

    private void compareAnswers(SlitherFence fence) {
        List<Long> answers = answers(NONE);
        Check.same("20 answers " + this, fence.answers(), answers.size());
        for (int edge = 0; edge < edges; edge++) {
            int asked = edge;
            if (answers.isEmpty()) {
                Check.same("23 proved " + edge + " " + this, Check.thrownBy(fence, made -> made.proved(asked)),
                        "java.lang.IllegalStateException");
            } else {
                Check.same("23 proved " + edge + " " + this, fence.proved(edge), proved(answers, edge));
            }
        }
        for (int cell = 0; cell < cells; cell++) {
            boolean needed = numbers[cell] != NONE && answers(cell).size() > answers.size();
            Check.same("25 isNeeded " + cell + " " + this, fence.isNeeded(cell), needed);
        }
        // some of them only, as 512 calls are promised
        for (int answer = 0; answer < answers.size(); answer += 1 + answers.size() / 4) {
            Check.same("21 answer " + answer + " " + this, fence.answer(answer), answers.get(answer));
            boolean[] outside = new boolean[cells + 1];
            flood(answers.get(answer), cells, outside);
            for (int cell = 0; cell < cells; cell++) {
                String call = "22 isInside " + answer + " " + cell + " " + this;
                Check.same(call, fence.isInside(answer, cell), !outside[cell]);
            }
        }
    }

    /** From the outside on, over all edges that are no line of the loop. */
    private void flood(long loop, int at, boolean[] reached) {
        reached[at] = true;
        for (int edge : edgesOfArea.get(at)) {
            int next = other(areas[edge], at);
            if ((loop >> edge & 1L) == 0L && !reached[next]) {
                flood(loop, next, reached);
            }
        }
    }

    private void compareBeyond(SlitherFence fence) {
        List<Long> answers = answers(NONE);
        if (answers.isEmpty()) {
            Check.same("24 beyondRules " + this, Check.thrownBy(fence, made -> made.beyondRules()),
                    "java.lang.IllegalStateException");
            return;
        }
        int beyond = 0;
        for (int edge = 0; edge < edges; edge++) {
            beyond += followed[edge] == UNKNOWN && proved(answers, edge) != UNKNOWN ? 1 : 0;
        }
        Check.same("24 beyondRules " + this, fence.beyondRules(), beyond);
    }

    // ---- the states

    private void allStates() {
        int states = (int) (Math.pow(3, edges) * Math.pow(5, cells));
        for (int n = 0; n < states; n++) {
            int rest = n;
            for (int edge = 0; edge < edges; edge++) {
                marks[edge] = rest % 3;
                rest /= 3;
            }
            for (int cell = 0; cell < cells; cell++) {
                numbers[cell] = rest % 5 - 1;
                rest /= 5;
            }
            compare();
        }
    }

    /** Edges as if each cell were inside or outside, or as in a loop; some of them are wrong. */
    private void randomState(Random random) {
        boolean[] inside = new boolean[cells + 1];
        for (int cell = 0; cell < cells; cell++) {
            inside[cell] = random.nextInt(4) == 0;
        }
        long loop = loops.get(random.nextInt(loops.size()));
        boolean byLoop = random.nextInt(3) > 0;
        // on the large boards there are too many rings of areas if most edges are decided
        int decided = random.nextInt(cells > 9 ? 55 : 100);
        int wrong = random.nextInt(3) > 0 ? 0 : random.nextInt(10);
        for (int edge = 0; edge < edges; edge++) {
            boolean line = byLoop ? (loop >> edge & 1L) == 1L : inside[areas[edge][0]] != inside[areas[edge][1]];
            line ^= random.nextInt(100) < wrong;
            marks[edge] = random.nextInt(100) >= decided ? UNKNOWN : line ? LINE : CROSS;
        }
        int numbered = random.nextInt(3) == 0 ? 0 : random.nextInt(100);
        for (int cell = 0; cell < cells; cell++) {
            int lines = 0;
            for (int edge : edgesOfArea.get(cell)) {
                lines += byLoop ? (int) (loop >> edge & 1L) : inside[areas[edge][0]] != inside[areas[edge][1]] ? 1 : 0;
            }
            numbers[cell] = lines > 3 || random.nextInt(100) >= numbered ? NONE : lines;
            if (random.nextInt(100) < wrong) {
                numbers[cell] = random.nextInt(5) - 1;
            }
        }
    }

    public static void main(String[] args) {
        int states = args.length > 0 ? Integer.parseInt(args[0]) : RANDOM_STATES;
        new LiteralTest(1, 1).allStates();
        new LiteralTest(2, 1).allStates();
        LiteralTest[] boards = new LiteralTest[BOARDS];
        for (int n = 0; n < BOARDS; n++) {
            boards[n] = new LiteralTest(1 + n % 4, 1 + n / 4);
        }
        for (int n = 0; n < states; n++) {
            boards[n % BOARDS].randomState(new Random(n));
            boards[n % BOARDS].compare();
        }
        Check.end();
    }
}
