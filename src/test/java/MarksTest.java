/** Promises 10 to 13: the marks. */
public final class MarksTest {
    public static void main(String[] args) {
        promise10Lines();
        promise11Ways();
        promise12Cell();
        promise12Point();
        promise12Loop();
        promise12Colour();
        promise12Order();
        promise13IsAnswer();
        Check.end();
    }

    private static void promise10Lines() {
        SlitherFence fence = Check.board(4, 4);
        Check.same("10 none", fence.lines(), 0);
        for (int edge = 0; edge < 40; edge++) {
            fence.mark(edge, SlitherFence.LINE);
            Check.same("10 lines", fence.lines(), edge + 1);
        }
        fence.mark(39, SlitherFence.CROSS);
        Check.same("10 a cross is none", fence.lines(), 39);
        fence.mark(38, SlitherFence.UNKNOWN);
        Check.same("10 an unknown edge is none", fence.lines(), 38);
    }

    private static void promise11Ways() {
        SlitherFence fence = Check.board(3, 3);
        Check.same("11 none", fence.ways(), 0);
        fence.mark(0, SlitherFence.LINE);
        fence.mark(2, SlitherFence.LINE);
        Check.same("11 two", fence.ways(), 2);
        fence.mark(1, SlitherFence.CROSS);
        Check.same("11 a cross joins nothing", fence.ways(), 2);
        fence.mark(1, SlitherFence.LINE);
        Check.same("11 joined", fence.ways(), 1);
        fence.mark(13, SlitherFence.LINE);
        Check.same("11 a fork is one way", fence.ways(), 1);
        fence.mark(23, SlitherFence.LINE);
        Check.same("11 far away", fence.ways(), 2);
        fence.lay(2, 2);
        Check.markEach(fence, SlitherFence.LINE, 0, 2, 6, 7, 3, 5, 10, 11);
        Check.same("11 two loops that share a point are one way", fence.ways(), 1);
        fence.lay(4, 3);
        Check.markEach(fence, SlitherFence.LINE, 0, 4, 16, 17, 10, 14, 28, 29);
        Check.same("11 two loops apart", fence.ways(), 2);
        fence.lay(4, 4);
        // no two of these share a point
        Check.markEach(fence, SlitherFence.LINE, 0, 2, 5, 7, 8, 10, 13, 15, 16, 18);
        Check.same("11 many", fence.ways(), 10);
    }

    private static void promise12Cell() {
        SlitherFence fence = Check.board(3, 3);
        Check.same("12 nothing", fence.broken(), SlitherFence.SOUND);
        fence.number(4, 1);
        fence.mark(4, SlitherFence.LINE);
        Check.same("12 as many", fence.broken(), SlitherFence.SOUND);
        fence.mark(7, SlitherFence.LINE);
        Check.same("12 more lines", fence.broken(), SlitherFence.CELL);
        fence.wipe();
        fence.number(4, 3);
        fence.mark(17, SlitherFence.CROSS);
        Check.same("12 just enough", fence.broken(), SlitherFence.SOUND);
        fence.mark(18, SlitherFence.CROSS);
        Check.same("12 fewer", fence.broken(), SlitherFence.CELL);
        fence.number(4, SlitherFence.NONE);
        Check.same("12 no number", fence.broken(), SlitherFence.SOUND);
        fence.wipe();
        fence.number(8, 0);
        fence.mark(23, SlitherFence.LINE);
        Check.same("12 zero", fence.broken(), SlitherFence.CELL);
    }

    private static void promise12Point() {
        SlitherFence fence = Check.board(3, 3);
        fence.mark(0, SlitherFence.LINE);
        fence.mark(1, SlitherFence.LINE);
        Check.same("12 two lines", fence.broken(), SlitherFence.SOUND);
        fence.mark(13, SlitherFence.LINE);
        Check.same("12 three lines", fence.broken(), SlitherFence.POINT);
        fence.wipe();
        Check.markEach(fence, SlitherFence.LINE, 3, 4, 13, 17);
        Check.same("12 four lines", fence.broken(), SlitherFence.POINT);
        fence.wipe();
        fence.mark(0, SlitherFence.LINE);
        fence.mark(1, SlitherFence.CROSS);
        Check.same("12 one way on", fence.broken(), SlitherFence.SOUND);
        fence.mark(13, SlitherFence.CROSS);
        Check.same("12 a dead end", fence.broken(), SlitherFence.POINT);
        fence.mark(0, SlitherFence.CROSS);
        Check.same("12 an empty point", fence.broken(), SlitherFence.SOUND);
        fence.wipe();
        fence.mark(23, SlitherFence.LINE);
        fence.mark(11, SlitherFence.CROSS);
        Check.same("12 a dead corner", fence.broken(), SlitherFence.POINT);
    }

    private static void promise12Loop() {
        SlitherFence fence = Check.board(2, 1);
        Check.markEach(fence, SlitherFence.LINE, 0, 2, 4, 5);
        Check.same("12 a loop", fence.broken(), SlitherFence.SOUND);
        fence.mark(6, SlitherFence.LINE);
        Check.same("12 another line", fence.broken(), SlitherFence.LOOP);
        fence.mark(6, SlitherFence.UNKNOWN);
        fence.number(1, 1);
        Check.same("12 a right number", fence.broken(), SlitherFence.SOUND);
        fence.number(1, 2);
        Check.same("12 fewer lines than the number", fence.broken(), SlitherFence.LOOP);

        fence.lay(4, 1);
        Check.markEach(fence, SlitherFence.LINE, 3, 7, 11, 12);
        fence.number(0, 0);
        Check.same("12 the last cell's loop", fence.broken(), SlitherFence.SOUND);
        fence.mark(0, SlitherFence.LINE);
        fence.number(0, SlitherFence.NONE);
        Check.same("12 a line ahead of the loop", fence.broken(), SlitherFence.LOOP);

        fence.lay(4, 3);
        Check.markEach(fence, SlitherFence.LINE, 0, 4, 16, 17, 10, 14, 28, 29);
        Check.same("12 two loops", fence.broken(), SlitherFence.LOOP);
    }

    private static void promise12Colour() {
        SlitherFence fence = Check.board(2, 1);
        fence.mark(0, SlitherFence.LINE);
        fence.mark(2, SlitherFence.CROSS);
        Check.same("12 a cell and the outside meet on two edges", fence.broken(), SlitherFence.COLOUR);
        fence.mark(2, SlitherFence.LINE);
        Check.same("12 an even number", fence.broken(), SlitherFence.SOUND);
        fence.mark(2, SlitherFence.UNKNOWN);
        fence.mark(5, SlitherFence.LINE);
        Check.same("12 a chain that does not close", fence.broken(), SlitherFence.SOUND);
        fence.mark(3, SlitherFence.LINE);
        Check.same("12 three areas, three lines", fence.broken(), SlitherFence.COLOUR);

        fence.lay(3, 3);
        // straight through the board from the top to the bottom: four edges, one line among them
        fence.mark(4, SlitherFence.LINE);
        Check.markEach(fence, SlitherFence.CROSS, 1, 7);
        Check.same("12 not through yet", fence.broken(), SlitherFence.SOUND);
        fence.mark(10, SlitherFence.CROSS);
        Check.same("12 through, odd", fence.broken(), SlitherFence.COLOUR);
        fence.mark(10, SlitherFence.LINE);
        Check.same("12 through, even", fence.broken(), SlitherFence.SOUND);
        fence.mark(1, SlitherFence.LINE);
        Check.same("12 through, three lines", fence.broken(), SlitherFence.COLOUR);

        fence.lay(4, 4);
        // around the middle of the board, which has nine points: the eight cells along the rim of 3 by 3
        Check.markEach(fence, SlitherFence.CROSS, 21, 22, 31, 32, 4, 8, 6);
        fence.mark(10, SlitherFence.LINE);
        Check.same("12 a ring of cells, odd", fence.broken(), SlitherFence.COLOUR);
        fence.mark(10, SlitherFence.UNKNOWN);
        Check.same("12 an open ring of cells", fence.broken(), SlitherFence.SOUND);
    }

    private static void promise12Order() {
        SlitherFence fence = Check.board(3, 3);
        fence.number(8, 0);
        fence.mark(23, SlitherFence.LINE);
        Check.markEach(fence, SlitherFence.LINE, 0, 1, 13);
        Check.same("12 cell ahead of point", fence.broken(), SlitherFence.CELL);
        fence.number(8, SlitherFence.NONE);
        Check.same("12 point", fence.broken(), SlitherFence.POINT);

        fence.lay(3, 1);
        Check.markEach(fence, SlitherFence.LINE, 0, 3, 6, 7, 1);
        Check.same("12 point ahead of loop", fence.broken(), SlitherFence.POINT);
        fence.mark(1, SlitherFence.UNKNOWN);
        fence.mark(2, SlitherFence.LINE);
        fence.mark(5, SlitherFence.CROSS);
        Check.same("12 loop ahead of colour", fence.broken(), SlitherFence.LOOP);
        fence.mark(7, SlitherFence.UNKNOWN);
        Check.same("12 colour", fence.broken(), SlitherFence.COLOUR);
        fence.mark(9, SlitherFence.CROSS);
        Check.same("12 point ahead of colour", fence.broken(), SlitherFence.POINT);
    }

    private static void promise13IsAnswer() {
        SlitherFence fence = Check.board(2, 2);
        Check.same("13 no lines", fence.isAnswer(), false);
        Check.markEach(fence, SlitherFence.LINE, 0, 2, 6);
        Check.same("13 an open way", fence.isAnswer(), false);
        fence.mark(7, SlitherFence.LINE);
        Check.same("13 unknown edges are taken for crosses", fence.isAnswer(), true);
        fence.mark(11, SlitherFence.CROSS);
        Check.same("13 crosses", fence.isAnswer(), true);
        fence.number(3, 0);
        fence.number(1, 1);
        Check.same("13 right numbers", fence.isAnswer(), true);
        fence.number(3, 1);
        Check.same("13 a wrong number", fence.isAnswer(), false);
        fence.number(3, SlitherFence.NONE);
        Check.markEach(fence, SlitherFence.LINE, 3, 5, 10, 11);
        Check.same("13 twice at a point", fence.isAnswer(), false);
        fence.lay(4, 1);
        Check.markEach(fence, SlitherFence.LINE, 0, 4, 8, 9, 2, 6, 10, 11);
        Check.same("13 two loops", fence.isAnswer(), false);
        fence.lay(4, 4);
        Check.markEach(fence, SlitherFence.LINE, 0, 1, 2, 3, 16, 17, 18, 19, 20, 25, 30, 35, 24, 29, 34, 39);
        Check.same("13 around the board", fence.isAnswer(), true);
        Check.markEach(fence, SlitherFence.LINE, 9, 13, 31, 32);
        Check.same("13 a loop in a loop", fence.isAnswer(), false);
    }
}
