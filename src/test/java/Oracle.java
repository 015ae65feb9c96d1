import java.util.ArrayDeque;
import java.util.ArrayList;
import java.util.Arrays;
import java.util.HashMap;
import java.util.HashSet;
import java.util.List;
import java.util.Map;
import java.util.Set;

/**
 * The document told a second time, by other means than the class: loops are found by walking from point to point,
 * and ways, chains and colours by searching. It answers by the name of a call, and tells an exception by its name.
 */
final class Oracle {
    private static final int NONE = -1;
    private static final int UNKNOWN = 0;
    private static final int LINE = 1;
    private static final int CROSS = 2;
    private static final String RANGE = "IndexOutOfBoundsException";
    private static final String ARGUMENT = "IllegalArgumentException";
    private static final String STATE = "IllegalStateException";
    private static final Map<Integer, List<Long>> LOOPS = new HashMap<>();
    private static final Map<Integer, Set<Long>> LOOP_SETS = new HashMap<>();

    private int width = 3;
    private int height = 3;
    private int[] numbers;
    private int[] marks;
    /** By edge: its two points, and its two areas, each as row and column; the outside is null. */
    private List<int[][]> points;
    private List<int[][]> areas;

    // what follows, of the last rounds
    private int[] state;
    private int[] round;
    private int[] rule;
    private int rounds;
    private int end;
    // what the rules want, of the last time they were asked
    private int[] firstRule;
    private boolean[] toLine;
    private boolean[] toCross;

    Oracle() {
        lay(3, 3);
    }

    String answerTo(String call, int a, int b) {
        switch (call) {
            case "lay": {
                if (a < 1 || a > 4 || b < 1 || b > 4) {
                    return ARGUMENT;
                }
                lay(a, b);
                return "";
            }
            case "cells":
                return "" + width * height;
            case "edges":
                return "" + points.size();
            case "number": {
                if (!isCell(a)) {
                    return RANGE;
                }
                if (b < -1 || b > 3) {
                    return ARGUMENT;
                }
                int before = numbers[a];
                numbers[a] = b;
                return "" + before;
            }
            case "mark": {
                if (!isEdge(a)) {
                    return RANGE;
                }
                if (b < 0 || b > 2) {
                    return ARGUMENT;
                }
                int before = marks[a];
                marks[a] = b;
                return "" + before;
            }
            case "wipe":
                Arrays.fill(marks, UNKNOWN);
                return "";
            case "markAll":
                return "" + markAll();
            case "edgeOf":
                return isCell(a) && b >= 0 && b < 4 ? "" + edgeOf(a, b) : RANGE;
            case "lines":
                return "" + count(marks, LINE);
            case "ways":
                return "" + ways();
            case "broken":
                return "" + reason(marks);
            case "isAnswer":
                return "" + isSolved(marks, NONE);
            default:
                return answerToQuestion(call, a, b);
        }
    }

    private String answerToQuestion(String call, int a, int b) {
        switch (call) {
            case "follows":
                follow();
                return isEdge(a) ? "" + state[a] : RANGE;
            case "roundOf":
                follow();
                return isEdge(a) ? "" + round[a] : RANGE;
            case "ruleOf":
                follow();
                return isEdge(a) ? "" + rule[a] : RANGE;
            case "rounds":
                follow();
                return "" + rounds;
            case "end":
                follow();
                return "" + end;
            case "hint":
                return "" + hint();
            case "answers":
                return "" + answers(NONE).size();
            case "answer": {
                List<Long> all = answers(NONE);
                return a >= 0 && a < all.size() ? "" + all.get(a) : RANGE;
            }
            case "isInside": {
                List<Long> all = answers(NONE);
                return a >= 0 && a < all.size() && isCell(b) ? "" + isInside(all.get(a), b) : RANGE;
            }
            case "proved":
                return !isEdge(a) ? RANGE : answers(NONE).isEmpty() ? STATE : "" + proved(a);
            case "beyondRules":
                return answers(NONE).isEmpty() ? STATE : "" + beyondRules();
            case "isNeeded":
                return isCell(a) ? "" + (numbers[a] != NONE && answers(a).size() > answers(NONE).size()) : RANGE;
            default:
                throw new IllegalArgumentException(call);
        }
    }

    int cellCount() {
        return width * height;
    }

    int edgeCount() {
        return points.size();
    }

    int answerCount() {
        return answers(NONE).size();
    }

    long someLoop(int which) {
        List<Long> all = loops();
        return all.get(Math.floorMod(which, all.size()));
    }

    int linesAround(int cell, long loop) {
        int lines = 0;
        for (int side = 0; side < 4; side++) {
            lines += (int) (loop >> edgeOf(cell, side) & 1L);
        }
        return lines;
    }

    // ---- the board

    private void lay(int newWidth, int newHeight) {
        width = newWidth;
        height = newHeight;
        points = new ArrayList<>();
        areas = new ArrayList<>();
        for (int row = 0; row <= height; row++) {
            for (int column = 0; column < width; column++) {
                points.add(new int[][] {{row, column}, {row, column + 1}});
                areas.add(new int[][] {area(row - 1, column), area(row, column)});
            }
        }
        for (int row = 0; row < height; row++) {
            for (int column = 0; column <= width; column++) {
                points.add(new int[][] {{row, column}, {row + 1, column}});
                areas.add(new int[][] {area(row, column - 1), area(row, column)});
            }
        }
        numbers = new int[width * height];
        Arrays.fill(numbers, NONE);
        marks = new int[points.size()];
    }

    private int[] area(int row, int column) {
        return row < 0 || row >= height || column < 0 || column >= width ? null : new int[] {row, column};
    }

    private boolean isCell(int cell) {
        return cell >= 0 && cell < width * height;
    }

    private boolean isEdge(int edge) {
        return edge >= 0 && edge < points.size();
    }

    private int edgeBetween(int row, int column, int otherRow, int otherColumn) {
        for (int edge = 0; edge < points.size(); edge++) {
            int[][] ends = points.get(edge);
            if (Arrays.equals(ends[0], new int[] {row, column})
                    && Arrays.equals(ends[1], new int[] {otherRow, otherColumn})) {
                return edge;
            }
        }
        throw new IllegalArgumentException();
    }

    private int edgeOf(int cell, int side) {
        int row = cell / width;
        int column = cell % width;
        if (side < 2) {
            return edgeBetween(row + side, column, row + side, column + 1);
        }
        return edgeBetween(row, column + side - 2, row + 1, column + side - 2);
    }

    private int pointNumber(int[] point) {
        return point[0] * 5 + point[1];
    }

    private int areaNumber(int[] area) {
        return area == null ? 16 : area[0] * 4 + area[1];
    }

    private static int count(int[] edges, int what) {
        int count = 0;
        for (int edge : edges) {
            count += edge == what ? 1 : 0;
        }
        return count;
    }

    private int aroundCell(int[] edges, int cell, int what) {
        int count = 0;
        for (int side = 0; side < 4; side++) {
            count += edges[edgeOf(cell, side)] == what ? 1 : 0;
        }
        return count;
    }

    private List<Integer> atPoint(int point) {
        List<Integer> there = new ArrayList<>();
        for (int edge = 0; edge < points.size(); edge++) {
            if (pointNumber(points.get(edge)[0]) == point || pointNumber(points.get(edge)[1]) == point) {
                there.add(edge);
            }
        }
        return there;
    }

    private int aroundPoint(int[] edges, int point, int what) {
        int count = 0;
        for (int edge : atPoint(point)) {
            count += edges[edge] == what ? 1 : 0;
        }
        return count;
    }

    // ---- loops

    private List<Long> loops() {
        int key = width * 10 + height;
        if (!LOOPS.containsKey(key)) {
            Set<Long> found = new HashSet<>();
            for (int row = 0; row <= height; row++) {
                for (int column = 0; column <= width; column++) {
                    walk(row * 5 + column, row, column, 0L, new HashSet<>(), found);
                }
            }
            List<Long> sorted = new ArrayList<>(found);
            sorted.sort(Oracle::inOrder);
            LOOPS.put(key, sorted);
            LOOP_SETS.put(key, found);
        }
        return LOOPS.get(key);
    }

    private Set<Long> loopSet() {
        loops();
        return LOOP_SETS.get(width * 10 + height);
    }

    private static int inOrder(long one, long other) {
        for (int edge = 0; edge < 64; edge++) {
            long had = one >> edge & 1L;
            if (had != (other >> edge & 1L)) {
                return had == 1L ? -1 : 1;
            }
        }
        return 0;
    }

    /** From the start, the loop's first point, on to where no point is met twice, until the start is met again. */
    private void walk(int start, int row, int column, long lines, Set<Integer> met, Set<Long> found) {
        int[][] steps = {{0, 1}, {1, 0}, {0, -1}, {-1, 0}};
        for (int[] step : steps) {
            int nextRow = row + step[0];
            int nextColumn = column + step[1];
            int next = nextRow * 5 + nextColumn;
            boolean onBoard = nextRow >= 0 && nextRow <= height && nextColumn >= 0 && nextColumn <= width;
            if (!onBoard || next < start || met.contains(next)) {
                continue;
            }
            int edge = edgeBetween(Math.min(row, nextRow), Math.min(column, nextColumn),
                    Math.max(row, nextRow), Math.max(column, nextColumn));
            if ((lines >> edge & 1L) != 0L) {
                continue;
            }
            if (next == start) {
                found.add(lines | 1L << edge);
            } else {
                met.add(next);
                walk(start, nextRow, nextColumn, lines | 1L << edge, met, found);
                met.remove(next);
            }
        }
    }

    private static long setOf(int[] edges) {
        long set = 0L;
        for (int edge = 0; edge < edges.length; edge++) {
            set |= edges[edge] == LINE ? 1L << edge : 0L;
        }
        return set;
    }

    private boolean numbersRight(long set, int besides) {
        for (int cell = 0; cell < numbers.length; cell++) {
            if (cell != besides && numbers[cell] != NONE && linesAround(cell, set) != numbers[cell]) {
                return false;
            }
        }
        return true;
    }

    private boolean isSolved(int[] edges, int besides) {
        return loopSet().contains(setOf(edges)) && numbersRight(setOf(edges), besides);
    }

    // ---- states

    /** All points that lines of the state lead to from a point. */
    private Set<Integer> reached(int[] edges, int point) {
        Set<Integer> reached = new HashSet<>();
        ArrayDeque<Integer> next = new ArrayDeque<>(List.of(point));
        while (!next.isEmpty()) {
            int from = next.remove();
            if (reached.add(from)) {
                for (int edge : atPoint(from)) {
                    if (edges[edge] == LINE) {
                        next.add(pointNumber(points.get(edge)[0]));
                        next.add(pointNumber(points.get(edge)[1]));
                    }
                }
            }
        }
        return reached;
    }

    private int ways() {
        Set<Set<Integer>> ways = new HashSet<>();
        for (int edge = 0; edge < marks.length; edge++) {
            if (marks[edge] == LINE) {
                ways.add(reached(marks, pointNumber(points.get(edge)[0])));
            }
        }
        return ways.size();
    }

    /** By area and by number of lines (0 even, 1 odd): whether a chain of decided edges leads there from an area. */
    private boolean[][] chains(int[] edges, int[] from) {
        boolean[][] reached = new boolean[17][2];
        reached[areaNumber(from)][0] = true;
        boolean more = true;
        while (more) {
            more = false;
            for (int edge = 0; edge < edges.length; edge++) {
                if (edges[edge] != UNKNOWN) {
                    int one = areaNumber(areas.get(edge)[0]);
                    int other = areaNumber(areas.get(edge)[1]);
                    for (int odd = 0; odd < 2; odd++) {
                        int then = edges[edge] == LINE ? 1 - odd : odd;
                        more = more || reached[one][odd] != reached[other][then];
                        reached[one][odd] |= reached[other][then];
                        reached[other][then] |= reached[one][odd];
                    }
                }
            }
        }
        return reached;
    }

    private int reason(int[] edges) {
        for (int cell = 0; cell < numbers.length; cell++) {
            int lines = aroundCell(edges, cell, LINE);
            if (numbers[cell] != NONE && (lines > numbers[cell]
                    || lines + aroundCell(edges, cell, UNKNOWN) < numbers[cell])) {
                return 1;
            }
        }
        for (int point = 0; point < 25; point++) {
            int lines = aroundPoint(edges, point, LINE);
            if (lines > 2 || lines == 1 && aroundPoint(edges, point, UNKNOWN) == 0) {
                return 2;
            }
        }
        long set = setOf(edges);
        for (long loop : loops()) {
            if ((loop & set) == loop && (loop != set || !numbersRight(set, NONE))) {
                return 3;
            }
        }
        for (int[][] pair : areas) {
            if (chains(edges, pair[0])[areaNumber(pair[0])][1] || chains(edges, pair[1])[areaNumber(pair[1])][1]) {
                return 4;
            }
        }
        return 0;
    }

    private void want(int[] edges, int edge, int what, int by) {
        if (edges[edge] == UNKNOWN) {
            firstRule[edge] = firstRule[edge] == NONE ? by : Math.min(firstRule[edge], by);
            (what == LINE ? toLine : toCross)[edge] = true;
        }
    }

    private void askRules(int[] edges) {
        firstRule = new int[edges.length];
        Arrays.fill(firstRule, NONE);
        toLine = new boolean[edges.length];
        toCross = new boolean[edges.length];
        for (int edge = 0; edge < edges.length; edge++) {
            if (edges[edge] == UNKNOWN) {
                askEdge(edges, edge);
            }
        }
    }

    /** All rules about one unknown edge. */
    private void askEdge(int[] edges, int edge) {
        for (int[] area : areas.get(edge)) {
            if (area != null) {
                int cell = area[0] * width + area[1];
                if (numbers[cell] != NONE && aroundCell(edges, cell, LINE) == numbers[cell]) {
                    want(edges, edge, CROSS, 1);
                }
                if (numbers[cell] != NONE && 4 - aroundCell(edges, cell, CROSS) == numbers[cell]) {
                    want(edges, edge, LINE, 2);
                }
            }
        }
        for (int[] end : points.get(edge)) {
            int lines = aroundPoint(edges, pointNumber(end), LINE);
            int unknown = aroundPoint(edges, pointNumber(end), UNKNOWN);
            if (lines == 2) {
                want(edges, edge, CROSS, 3);
            } else if (unknown == 1) {
                want(edges, edge, lines == 1 ? LINE : CROSS, lines == 1 ? 4 : 5);
            }
        }
        int[][] ends = points.get(edge);
        if (reached(edges, pointNumber(ends[0])).contains(pointNumber(ends[1]))) {
            int[] closed = edges.clone();
            closed[edge] = LINE;
            if (!isSolved(closed, NONE)) {
                want(edges, edge, CROSS, 6);
            }
        }
        boolean[] chain = chains(edges, areas.get(edge)[0])[areaNumber(areas.get(edge)[1])];
        if (chain[1]) {
            want(edges, edge, LINE, 7);
        }
        if (chain[0]) {
            want(edges, edge, CROSS, 7);
        }
    }

    // ---- what follows

    private void follow() {
        state = marks.clone();
        round = new int[state.length];
        rule = new int[state.length];
        for (int edge = 0; edge < state.length; edge++) {
            round[edge] = state[edge] == UNKNOWN ? NONE : 0;
            rule[edge] = NONE;
        }
        rounds = 0;
        while (true) {
            end = reason(state);
            if (end != 0) {
                return;
            }
            askRules(state);
            boolean wanted = false;
            for (int edge = 0; edge < state.length; edge++) {
                if (toLine[edge] && toCross[edge]) {
                    end = 5;
                    return;
                }
                wanted = wanted || toLine[edge] || toCross[edge];
            }
            if (!wanted) {
                return;
            }
            rounds++;
            for (int edge = 0; edge < state.length; edge++) {
                if (toLine[edge] || toCross[edge]) {
                    state[edge] = toLine[edge] ? LINE : CROSS;
                    round[edge] = rounds;
                    rule[edge] = firstRule[edge];
                }
            }
        }
    }

    private int markAll() {
        follow();
        if (end != 0) {
            return 0;
        }
        int became = count(marks, UNKNOWN) - count(state, UNKNOWN);
        marks = state.clone();
        return became;
    }

    private int hint() {
        if (reason(marks) != 0) {
            return NONE;
        }
        askRules(marks);
        for (int edge = 0; edge < marks.length; edge++) {
            if (toLine[edge] || toCross[edge]) {
                return edge;
            }
        }
        return NONE;
    }

    // ---- answers

    private List<Long> answers(int besides) {
        long crosses = 0L;
        for (int edge = 0; edge < marks.length; edge++) {
            crosses |= marks[edge] == CROSS ? 1L << edge : 0L;
        }
        List<Long> answers = new ArrayList<>();
        for (long loop : loops()) {
            if ((loop & crosses) == 0L && (setOf(marks) & ~loop) == 0L && numbersRight(loop, besides)) {
                answers.add(loop);
            }
        }
        return answers;
    }

    /** From the cell to the left, out of the board: inside if an odd number of lines is crossed. */
    private boolean isInside(long loop, int cell) {
        boolean inside = false;
        for (int left = cell; left >= cell - cell % width; left--) {
            inside ^= (loop >> edgeOf(left, 2) & 1L) != 0L;
        }
        return inside;
    }

    private int proved(int edge) {
        int have = 0;
        List<Long> all = answers(NONE);
        for (long loop : all) {
            have += (int) (loop >> edge & 1L);
        }
        return have == all.size() ? LINE : have == 0 ? CROSS : UNKNOWN;
    }

    private int beyondRules() {
        follow();
        int beyond = 0;
        for (int edge = 0; edge < state.length; edge++) {
            beyond += state[edge] == UNKNOWN && proved(edge) != UNKNOWN ? 1 : 0;
        }
        return beyond;
    }
}
