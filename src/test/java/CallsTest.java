/** An object answers 512 calls, whatever they are: the last one of so many is looked at. */
public final class CallsTest {
    private static final int CALLS = 512;

    public static void main(String[] args) {
        dearestCalls();
        alwaysAnotherBoard();
        alwaysRefused();
        alwaysChanged();
        allAnswersOfABoard();
        Check.end();
    }

    private static void dearestCalls() {
        last("20 answers", 9349, SlitherFence::answers);
        last("25 isNeeded", 0, fence -> fence.isNeeded(15) ? 1 : 0);
        last("24 beyondRules", 0, SlitherFence::beyondRules);
        last("23 proved", SlitherFence.UNKNOWN, fence -> fence.proved(39));
        last("21 answer", Check.set(15, 19, 38, 39), fence -> fence.answer(9348));
        last("22 isInside", 1, fence -> fence.isInside(9348, 15) ? 1 : 0);
        last("14 follows", SlitherFence.UNKNOWN, fence -> fence.follows(0));
        last("8 markAll", 0, SlitherFence::markAll);
    }

    private interface Asked {
        long answer(SlitherFence fence);
    }

    private static void last(String what, long want, Asked asked) {
        SlitherFence fence = Check.board(4, 4);
        for (int call = 2; call < CALLS; call++) {
            asked.answer(fence);
        }
        Check.same(what + ", call 512", asked.answer(fence), want);
    }

    private static void alwaysAnotherBoard() {
        int[] loops = {9349, 1049, 108, 10};
        SlitherFence fence = new SlitherFence();
        int answers = 0;
        for (int pair = 0; pair < CALLS / 2; pair++) {
            fence.lay(4, 4 - pair % 4);
            answers = fence.answers();
            Check.same("20 answers of pair " + pair, answers, loops[pair % 4]);
        }
    }

    private static void alwaysRefused() {
        SlitherFence fence = new SlitherFence();
        for (int call = 1; call < CALLS; call++) {
            int wrong = -call;
            Check.same("6 refused call " + call, Check.thrownBy(fence, made -> made.mark(wrong, wrong)),
                    "java.lang.IndexOutOfBoundsException");
        }
        Check.same("20 answers, call 512", fence.answers(), 213);
    }

    private static void alwaysChanged() {
        SlitherFence fence = new SlitherFence();
        for (int call = 1; call < CALLS; call++) {
            if (call % 2 == 0) {
                fence.mark(call % 24, call / 24 % 3);
            } else {
                fence.number(call % 9, call % 5 - 1);
            }
        }
        // the last one that marked the edge 10 was the call 490, with the state 20 % 3
        Check.same("6 mark, call 512", fence.mark(10, SlitherFence.LINE), SlitherFence.CROSS);
    }

    private static void allAnswersOfABoard() {
        SlitherFence fence = new SlitherFence();
        long before = fence.answer(0);
        for (int answer = 1; answer < 213; answer++) {
            long next = fence.answer(answer);
            long differ = before ^ next;
            Check.same("21 in order: " + answer, differ != 0L && (before & differ & -differ) != 0L, true);
            before = next;
        }
        Check.same("21 the last of all", before, Check.set(8, 11, 22, 23));
    }
}
