/**
 * All that an object answers, as one text: of two objects with the same board, numbers and marks it is the same. It
 * takes some 340 calls on the largest board, and leaves the object as it was.
 */
final class Transcript {
    private static final int MOST_ANSWERS_TOLD = 3;

    private final SlitherFence fence;
    private final StringBuilder text = new StringBuilder();
    private final int cells;
    private final int edges;

    private Transcript(SlitherFence fence) {
        this.fence = fence;
        cells = fence.cells();
        edges = fence.edges();
    }

    static String of(SlitherFence fence) {
        Transcript told = new Transcript(fence);
        told.board();
        told.marks();
        told.whatFollows();
        told.answers();
        return told.text.toString();
    }

    private Transcript tell(String name) {
        text.append("; ").append(name);
        return this;
    }

    private Transcript tell(long answer) {
        text.append(' ').append(answer);
        return this;
    }

    private void board() {
        tell("cells").tell(cells).tell("edges").tell(edges).tell("edgeOf");
        for (int side = 0; side < 4; side++) {
            tell(fence.edgeOf(cells - 1, side));
        }
        tell("numbers");
        for (int cell = 0; cell < cells; cell++) {
            int number = fence.number(cell, SlitherFence.NONE);
            fence.number(cell, number);
            tell(number);
        }
        tell("marks");
        for (int edge = 0; edge < edges; edge++) {
            tell(Check.markOf(fence, edge));
        }
    }

    private void marks() {
        tell("lines").tell(fence.lines()).tell("ways").tell(fence.ways());
        tell("broken").tell(fence.broken()).tell("isAnswer " + fence.isAnswer());
    }

    private void whatFollows() {
        tell("follows\n" + Drawing.follows(fence));
        tell("roundOf\n" + Drawing.rounds(fence));
        tell("ruleOf\n" + Drawing.rules(fence));
        tell("rounds").tell(fence.rounds()).tell("end").tell(fence.end()).tell("hint").tell(fence.hint());
    }

    private void answers() {
        int answers = fence.answers();
        tell("answers").tell(answers).tell("answer");
        for (int answer = 0; answer < Math.min(answers, MOST_ANSWERS_TOLD); answer++) {
            tell(fence.answer(answer));
        }
        tell("isNeeded");
        for (int cell = 0; cell < cells; cell++) {
            tell(" " + fence.isNeeded(cell));
        }
        if (answers > 0) {
            tell("isInside");
            for (int cell = 0; cell < cells; cell++) {
                tell(" " + fence.isInside(answers - 1, cell));
            }
            tell("proved\n" + Drawing.proved(fence)).tell("beyondRules").tell(fence.beyondRules());
        }
    }
}
