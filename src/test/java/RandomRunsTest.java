import java.util.Random;

/**
 * Runs of up to 512 calls on new objects, each call compared with the oracle. The same runs each time. Numbers and
 * marks are often taken from a loop, so that the rounds go far, and sometimes they are not, so that they end broken.
 */
public final class RandomRunsTest {
    private static final String[] CALLS = {
        "lay", "cells", "edges", "number", "mark", "wipe", "markAll", "edgeOf", "lines", "ways", "broken", "isAnswer",
        "follows", "roundOf", "ruleOf", "rounds", "end", "hint", "answers", "answer", "isInside", "proved",
        "beyondRules", "isNeeded",
    };
    private static final int MOST_CALLS = 512;
    private static final int[] WILD = {-1, 64, 40, 128, -64, Integer.MIN_VALUE, Integer.MAX_VALUE};

    private final Random random;
    private final SlitherFence fence = new SlitherFence();
    private final Oracle oracle = new Oracle();
    private final StringBuilder run = new StringBuilder();
    private int calls = 0;
    private long loop = 0L;

    private RandomRunsTest(long seed) {
        random = new Random(seed);
        run.append("seed ").append(seed).append(':');
    }

    public static void main(String[] args) {
        int runs = args.length > 0 ? Integer.parseInt(args[0]) : 300;
        for (int seed = 0; seed < runs; seed++) {
            RandomRunsTest test = new RandomRunsTest(seed);
            test.play();
        }
        Check.end();
    }

    private void play() {
        while (calls < MOST_CALLS) {
            int what = random.nextInt(100);
            if (what < 2) {
                if (!layPuzzle()) {
                    return;
                }
            } else if (!call(CALLS[callNumber(what)])) {
                return;
            }
        }
    }

    private int callNumber(int what) {
        // a third of the calls change something, but few of them lay another board
        if (what < 32) {
            return what % 2 == 0 ? 3 : 4;
        }
        return what < 36 ? random.nextInt(CALLS.length) : 8 + random.nextInt(CALLS.length - 8);
    }

    /** A board with numbers and marks, most of them those of a loop. */
    private boolean layPuzzle() {
        boolean same = call("lay", 1 + random.nextInt(4), 1 + random.nextInt(4));
        loop = oracle.someLoop(random.nextInt());
        int numbered = random.nextInt(101);
        int marked = random.nextInt(40);
        for (int cell = 0; same && cell < oracle.cellCount(); cell++) {
            int lines = oracle.linesAround(cell, loop);
            if (random.nextInt(100) < numbered && lines < 4) {
                same = call("number", cell, lines);
            }
        }
        for (int edge = 0; same && edge < oracle.edgeCount(); edge++) {
            if (random.nextInt(100) < marked) {
                same = call("mark", edge, (loop >> edge & 1L) == 1L ? 1 : 2);
            }
        }
        return same;
    }

    private boolean call(String name) {
        switch (name) {
            case "lay":
                return random.nextInt(3) > 0 || call(name, random.nextInt(7) - 1, random.nextInt(7) - 1);
            case "number":
                return call(name, some(oracle.cellCount()), number());
            case "mark":
                return randomMark();
            case "edgeOf":
                return call(name, some(oracle.cellCount()), some(4));
            case "isInside":
                return call(name, some(oracle.answerCount()), some(oracle.cellCount()));
            case "answer":
                return call(name, some(oracle.answerCount()), 0);
            case "isNeeded":
                return call(name, some(oracle.cellCount()), 0);
            default:
                return call(name, some(oracle.edgeCount()), 0);
        }
    }

    private boolean randomMark() {
        int edge = some(oracle.edgeCount());
        int state = random.nextInt(20) == 0 ? some(3) : random.nextInt(3);
        if (random.nextInt(4) > 0) {
            state = (loop >> edge & 1L) == 1L ? 1 : 2;
        }
        return call("mark", edge, state);
    }

    private int number() {
        return random.nextInt(20) == 0 ? some(4) : random.nextInt(5) - 1;
    }

    /** Mostly 0 to below - 1, sometimes just outside of that, sometimes far from it. */
    private int some(int below) {
        int how = random.nextInt(40);
        if (how == 0) {
            return WILD[random.nextInt(WILD.length)];
        }
        if (how == 1) {
            return random.nextBoolean() ? below : -1;
        }
        return below < 1 ? 0 : random.nextInt(below);
    }

    /** Tells whether the run goes on: not after a wrong answer, and not behind the last call that is promised. */
    private boolean call(String name, int a, int b) {
        if (calls >= MOST_CALLS) {
            return false;
        }
        calls++;
        run.append(' ').append(name).append('(').append(a).append(", ").append(b).append(')');
        String want = oracle.answerTo(name, a, b);
        String got;
        try {
            got = answerTo(name, a, b);
        } catch (RuntimeException e) {
            got = e.getClass().getSimpleName();
        }
        if (!got.equals(want)) {
            Check.same(run.toString(), got, want);
            return false;
        }
        return true;
    }

    private String answerTo(String name, int a, int b) {
        switch (name) {
            case "lay":
                fence.lay(a, b);
                return "";
            case "cells":
                return "" + fence.cells();
            case "edges":
                return "" + fence.edges();
            case "number":
                return "" + fence.number(a, b);
            case "mark":
                return "" + fence.mark(a, b);
            case "wipe":
                fence.wipe();
                return "";
            case "markAll":
                return "" + fence.markAll();
            case "edgeOf":
                return "" + fence.edgeOf(a, b);
            case "lines":
                return "" + fence.lines();
            case "ways":
                return "" + fence.ways();
            case "broken":
                return "" + fence.broken();
            case "isAnswer":
                return "" + fence.isAnswer();
            default:
                return answerToQuestion(name, a, b);
        }
    }

    private String answerToQuestion(String name, int a, int b) {
        switch (name) {
            case "follows":
                return "" + fence.follows(a);
            case "roundOf":
                return "" + fence.roundOf(a);
            case "ruleOf":
                return "" + fence.ruleOf(a);
            case "rounds":
                return "" + fence.rounds();
            case "end":
                return "" + fence.end();
            case "hint":
                return "" + fence.hint();
            case "answers":
                return "" + fence.answers();
            case "answer":
                return "" + fence.answer(a);
            case "isInside":
                return "" + fence.isInside(a, b);
            case "proved":
                return "" + fence.proved(a);
            case "beyondRules":
                return "" + fence.beyondRules();
            default:
                return "" + fence.isNeeded(a);
        }
    }
}
