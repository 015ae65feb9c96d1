/** What the tests share: it counts wrong answers and prints each of them. */
final class Check {
    interface Call {
        void on(SlitherFence fence);
    }

    private static int wrong = 0;

    private Check() {
    }

    static void same(String what, long got, long want) {
        if (got != want) {
            wrong++;
            System.out.println(what + " answered " + got + ", due is " + want);
        }
    }

    static void same(String what, boolean got, boolean want) {
        same(what, got ? 1L : 0L, want ? 1L : 0L);
    }

    static void same(String what, String got, String want) {
        if (!got.equals(want)) {
            wrong++;
            System.out.println(what + " answered " + got + ", due is " + want);
        }
    }

    /** What a call throws: the exception's name, or "nothing". */
    static String thrownBy(SlitherFence fence, Call call) {
        try {
            call.on(fence);
        } catch (RuntimeException e) {
            return e.getClass().getName();
        }
        return "nothing";
    }

    static int markOf(SlitherFence fence, int edge) {
        int state = fence.mark(edge, SlitherFence.UNKNOWN);
        fence.mark(edge, state);
        return state;
    }

    static SlitherFence board(int width, int height) {
        SlitherFence fence = new SlitherFence();
        fence.lay(width, height);
        return fence;
    }

    static void markEach(SlitherFence fence, int state, int... edges) {
        for (int edge : edges) {
            fence.mark(edge, state);
        }
    }

    static long set(int... edges) {
        long set = 0L;
        for (int edge : edges) {
            set |= 1L << edge;
        }
        return set;
    }

    /** To be called last: ends the program, with exit code 1 if an answer was wrong. */
    static void end() {
        System.out.println(wrong == 0 ? "all answers are as due" : wrong + " answers are not as due");
        if (wrong != 0) {
            System.exit(1);
        }
    }
}
