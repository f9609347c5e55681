/** Promises 7 to 12: piece, block, way, along, misfit, best. */
public final class PiecesTest {
    private static final int BAD = ShadowBand.BAD;
    private static final int NOT = ShadowBand.NOT;
    private static final int FULL = ShadowBand.FULL;

    public static void main(String[] args) {
        Check c = new Check();
        pieces(c);
        blocks(c);
        ways(c);
        fewestThenFirst(c);
        sixteen(c);
        misfits(c);
        bests(c);
        c.end();
    }

    private static void pieces(Check c) {
        ShadowBand x = new ShadowBand();
        int[][] wrong = {
            {0, 60060, 0, 0}, {64, 60060, 0, 0}, {99, 60060, 0, 0}, {100, 60060, 0, 0},
            {1201, 60060, 0, 0}, {-1, 60060, 0, 0}, {-99, 60060, 0, 0},
            {1, 29060, 0, 0}, {1, 60029, 0, 0}, {1, 30029, 0, 0}, {1, 241241, 0, 0},
            {1, 60241, 0, 0}, {1, 61060, 0, 0}, {1, 0, 0, 0}, {1, -60060, 0, 0},
            {1, 60999, 0, 0}, {1, 60060, 2, 0}, {1, 60060, -1, 0}, {1, 60060, 0, -1},
            {1, 60060, 0, 1000}, {Integer.MAX_VALUE, 60060, 0, 0},
            {Integer.MIN_VALUE, 60060, 0, 0}, {1, Integer.MAX_VALUE, 0, 0},
            {1, Integer.MIN_VALUE, 0, 0}};
        for (int[] w : wrong) {
            c.due("7 piece " + w[0] + " " + w[1] + " " + w[2] + " " + w[3],
                x.piece(w[0], w[1], w[2], w[3]), BAD);
        }
        c.due("7 none so far", x.count(2), 0);
        c.due("7 the least", x.piece(1, 30030, 0, 0), 0);
        c.due("7 the most", x.piece(1163, 240240, 1, 999), 1);
        for (int i = 2; i < 12; i++) {
            c.due("7 piece " + i, x.piece(100 * i + 63, 30240, i % 2, i), i);
        }
        c.due("7 full", x.piece(1, 60060, 0, 0), FULL);
        c.due("7 bad ahead of full", x.piece(0, 60060, 0, 0), BAD);
        c.due("7 pieces", x.count(2), 12);
        c.due("7 without blocks", x.count(3), 0);
        c.due("7 without ways", x.best(11, 100), NOT);
    }

    private static void blocks(Check c) {
        ShadowBand x = new ShadowBand();
        c.due("8 no piece", x.block(0, 1, 3, 0), BAD);
        x.piece(1, 60120, 0, 0);
        c.due("8 piece -1", x.block(-1, 1, 3, 0), BAD);
        c.due("8 piece 1", x.block(1, 1, 3, 0), BAD);
        c.due("8 beats 0", x.block(0, 0, 3, 0), BAD);
        c.due("8 beats 65", x.block(0, 65, 3, 0), BAD);
        c.due("8 how -1", x.block(0, 1, -1, 0), BAD);
        c.due("8 how 4", x.block(0, 1, 4, 0), BAD);
        c.due("8 next -1", x.block(0, 1, 3, -1), BAD);
        c.due("8 next 256", x.block(0, 1, 3, 256), BAD);
        c.due("8 none so far", x.count(3), 0);
        for (int i = 0; i < 8; i++) {
            c.due("8 block " + i, x.block(0, i == 0 ? 1 : 64, i % 4, 255), i);
        }
        c.due("8 full", x.block(0, 1, 3, 0), FULL);
        c.due("8 bad ahead of full", x.block(0, 65, 3, 0), BAD);
        c.due("8 blocks", x.count(3), 8);
        x.piece(1, 60120, 0, 0);
        c.due("8 of another piece", x.block(1, 1, 3, 0), 0);
        c.due("8 blocks of all", x.count(3), 9);
    }

    private static void ways(Check c) {
        ShadowBand x = new ShadowBand();
        c.due("9 no piece", x.way(0, 1), BAD);
        c.due("10 no piece", x.along(0, 1, 0), BAD);
        x.piece(1, 60120, 0, 0);
        c.due("9 no block", x.way(0, 1), NOT);
        c.due("10 no block", x.along(0, 1, 0), BAD);
        x.block(0, 3, 2, 2 + 4);
        c.due("9 an entry is no exit", x.way(0, 3), NOT);
        c.due("9 the next one is not there yet", x.way(0, 8), NOT);
        x.block(0, 5, 1, 0);
        c.due("9 now it is there", x.way(0, 8), 2);
        c.due("10 first", x.along(0, 8, 0), 0);
        c.due("10 second", x.along(0, 8, 1), 1);
        c.due("10 third", x.along(0, 8, 2), BAD);
        c.due("10 ahead of the first", x.along(0, 8, -1), BAD);
        c.due("9 an exit is no entry", x.way(0, 5), NOT);
        c.due("9 no beats", x.way(0, 0), BAD);
        c.due("9 400 beats", x.way(0, 400), NOT);
        c.due("9 401 beats", x.way(0, 401), BAD);
        c.due("10 401 beats", x.along(0, 401, 0), BAD);
        c.due("10 0 beats", x.along(0, 0, 0), BAD);
        c.due("10 no way", x.along(0, 7, 0), BAD);
        c.due("9 piece 1", x.way(1, 8), BAD);
        c.due("9 piece -1", x.way(-1, 8), BAD);
        x.block(0, 5, 3, 4);
        c.due("9 one block", x.way(0, 5), 1);
        c.due("10 one block", x.along(0, 5, 0), 2);
        c.due("9 itself, too", x.way(0, 15), 3);
        c.due("10 the lesser block stays", x.along(0, 8, 1), 1);
    }

    private static void fewestThenFirst(Check c) {
        ShadowBand x = new ShadowBand();
        x.piece(1, 60120, 0, 0);
        x.block(0, 2, 3, 255);
        x.block(0, 4, 3, 255);
        x.block(0, 6, 3, 255);
        x.block(0, 4, 3, 255);
        c.due("9 fewest", x.way(0, 8), 2);
        c.due("9 not the first by blocks alone", x.along(0, 8, 0), 0);
        c.due("9 0 then 2 ahead of 1 then 1", x.along(0, 8, 1), 2);
        c.due("9 one ahead of two", x.way(0, 4), 1);
        c.due("9 block 1 ahead of 3", x.along(0, 4, 0), 1);
        c.due("9 ten", x.way(0, 10), 2);
        c.due("9 ten, first", x.along(0, 10, 0), 1);
        c.due("9 ten, second", x.along(0, 10, 1), 2);
        c.due("9 odd", x.way(0, 9), NOT);
    }

    private static void sixteen(Check c) {
        ShadowBand x = new ShadowBand();
        x.piece(1, 60120, 0, 0);
        x.block(0, 1, 3, 1);
        c.due("9 sixteen blocks", x.way(0, 16), 16);
        c.due("10 the sixteenth", x.along(0, 16, 15), 0);
        c.due("10 no seventeenth", x.along(0, 16, 16), BAD);
        c.due("9 not seventeen", x.way(0, 17), NOT);
        x.piece(1, 60120, 0, 0);
        x.block(1, 25, 3, 1);
        c.due("9 400 beats in sixteen blocks", x.way(1, 400), 16);
    }

    private static void misfits(Check c) {
        ShadowBand x = new ShadowBand();
        c.due("11 no piece", x.misfit(0, 1, 0), BAD);
        x.piece(1, 70130, 0, 0);
        // 600 * 7 / 130 is 32, the rest away; 600 * 7 / 70 is 60.
        c.due("11 at the lower end", x.misfit(0, 7, 32), 0);
        c.due("11 below it", x.misfit(0, 7, 31), 1);
        c.due("11 at the upper end", x.misfit(0, 7, 60), 0);
        c.due("11 above it", x.misfit(0, 7, 61), 1);
        c.due("11 between", x.misfit(0, 7, 45), 0);
        c.due("11 no tenths", x.misfit(0, 7, 0), 32);
        c.due("11 the most tenths", x.misfit(0, 400, 100000), 100000 - 3428);
        c.due("11 too many", x.misfit(0, 7, 100001), BAD);
        c.due("11 too few", x.misfit(0, 7, -1), BAD);
        c.due("11 beats 0", x.misfit(0, 0, 5), BAD);
        c.due("11 beats 401", x.misfit(0, 401, 5), BAD);
        c.due("11 piece 1", x.misfit(1, 1, 5), BAD);
    }

    private static void bests(Check c) {
        ShadowBand x = new ShadowBand();
        c.due("12 no piece", x.best(0, 0), BAD);
        x.piece(1, 60060, 0, 0);
        c.due("12 no block", x.best(0, 10), NOT);
        c.due("12 bad ahead of not", x.best(0, 100001), BAD);
        x.block(0, 4, 2, 0);
        c.due("12 no way", x.best(0, 10), NOT);
        x.block(0, 4, 3, 2);
        c.due("12 just so", x.best(0, 80), 8);
        c.due("12 of two alike the least", x.best(0, 60), 4);
        c.due("12 nearer to more", x.best(0, 61), 8);
        c.due("12 no tenths", x.best(0, 0), 4);
        c.due("12 the most tenths", x.best(0, 100000), 64);
        c.due("12 below", x.best(0, -1), BAD);
        c.due("12 piece 1", x.best(1, 5), BAD);
        x.piece(1, 60120, 0, 0);
        x.block(1, 3, 3, 1);
        c.due("12 of several without misfit the least", x.best(1, 90), 9);
        x.piece(1, 60060, 0, 0);
        x.block(2, 50, 3, 1);
        c.due("12 400 beats, too", x.best(2, 4000), 400);
        c.due("12 no more than 400", x.best(2, 100000), 400);
    }
}
