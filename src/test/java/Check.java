/** What the tests share: it counts wrong answers and prints each of them. */
final class Check {
    interface Call {
        void run();
    }

    private static int wrong = 0;

    private Check() {
    }

    static void same(String what, long got, long want) {
        if (got != want) {
            wrong++;
            System.out.println(what + " answered " + got + ", due is " + want);
        }
    }

    static void same(String what, boolean got, boolean want) {
        same(what, got ? 1L : 0L, want ? 1L : 0L);
    }

    static void same(String what, String got, String want) {
        if (!got.equals(want)) {
            wrong++;
            System.out.println(what + " answered " + got + ", due is " + want);
        }
    }

    /** The call must throw exactly this exception, and the object must answer afterwards as it did before. */
    static void refuses(String what, SlitherFence fence, Class<?> exception, Call call) {
        String before = contents(fence);
        String thrown = "nothing";
        try {
            call.run();
        } catch (RuntimeException e) {
            thrown = e.getClass().getName();
        }
        same(what + ": what it throws", thrown, exception.getName());
        same(what + ": what it leaves", contents(fence), before);
    }

    /** The board, the numbers and the marks, read by changing them and putting them back. */
    static String contents(SlitherFence fence) {
        StringBuilder text = new StringBuilder();
        text.append(fence.cells()).append(" cells, ").append(fence.edges()).append(" edges; bottom of cell 0: ");
        text.append(fence.edgeOf(0, 1)).append("; numbers:");
        for (int cell = 0; cell < fence.cells(); cell++) {
            int number = fence.number(cell, SlitherFence.NONE);
            fence.number(cell, number);
            text.append(' ').append(number);
        }
        text.append("; marks:");
        for (int edge = 0; edge < fence.edges(); edge++) {
            text.append(' ').append(markOf(fence, edge));
        }
        return text.toString();
    }

    static int markOf(SlitherFence fence, int edge) {
        int state = fence.mark(edge, SlitherFence.UNKNOWN);
        fence.mark(edge, state);
        return state;
    }

    static SlitherFence board(int width, int height) {
        SlitherFence fence = new SlitherFence();
        fence.lay(width, height);
        return fence;
    }

    static void markEach(SlitherFence fence, int state, int... edges) {
        for (int edge : edges) {
            fence.mark(edge, state);
        }
    }

    static long set(int... edges) {
        long set = 0L;
        for (int edge : edges) {
            set |= 1L << edge;
        }
        return set;
    }

    /** To be called last: ends the program, with exit code 1 if an answer was wrong. */
    static void end() {
        System.out.println(wrong == 0 ? "all answers are as due" : wrong + " answers are not as due");
        if (wrong != 0) {
            System.exit(1);
        }
    }
}
