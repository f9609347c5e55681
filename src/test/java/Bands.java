import java.util.Arrays;

/** Objects that several tests begin with. */
final class Bands {
    private Bands() {
    }

    /** A film of one shot for each number of frames, each a stretch of its own, all of mood 0. */
    static ShadowBand film(int... frames) {
        ShadowBand x = new ShadowBand();
        for (int s = 0; s < frames.length; s++) {
            x.shot(frames[s], 0);
            x.cue(s, 1);
        }
        return x;
    }

    /** So many stretches of 120 frames: 100 tenths each at 12 frames a second. */
    static ShadowBand stretches(int n) {
        int[] frames = new int[n];
        Arrays.fill(frames, 120);
        return film(frames);
    }

    /** A piece of mood 0, a second for each beat, and one block that is entry and exit. */
    static int piece(ShadowBand x, int key, int theme, int beats) {
        int number = x.piece(100 * key + 1, 60060, theme, 0);
        x.block(number, beats, 3, 0);
        return number;
    }

    /** One piece without blocks. */
    static ShadowBand onePiece(int slow, int fast) {
        ShadowBand x = new ShadowBand();
        x.piece(1, 1000 * slow + fast, 0, 0);
        return x;
    }

    /** As much of everything as there can be: 258 calls. */
    static ShadowBand full() {
        ShadowBand x = new ShadowBand();
        for (int i = 0; i < 60; i++) {
            x.shot(2000 - i, i % 6);
            x.cue(i, 1);
        }
        for (int p = 0; p < 12; p++) {
            x.piece(100 * p + 63, 30000 + 240 - p, p % 2, 999 - p);
            for (int b = 0; b < 8; b++) {
                x.block(p, 64 - b - p, 3, 255);
            }
        }
        for (int e = 0; e < 30; e++) {
            x.effect(10 * e, 10 * e + 15, 1 + e % 4);
        }
        return x;
    }
}
