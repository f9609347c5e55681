/** Promises 1 to 6: a new object, shot, cue, stretches, stretch, tenths. */
public final class FilmTest {
    private static final int BAD = ShadowBand.BAD;
    private static final int NOT = ShadowBand.NOT;
    private static final int FULL = ShadowBand.FULL;

    public static void main(String[] args) {
        Check c = new Check();
        newObject(c);
        shots(c);
        cues(c);
        stretches(c);
        tenths(c);
        c.end();
    }

    private static void newObject(Check c) {
        ShadowBand x = new ShadowBand();
        c.due("1 stretches", x.stretches(), 0);
        for (int what = 0; what <= 5; what++) {
            c.due("1 count " + what, x.count(what), 0);
        }
        c.due("1 given", x.given(0, 0), BAD);
        c.due("1 begin", x.begin(), NOT);
        c.due("1 now", x.now(5), BAD);
        c.due("1 fees", x.fees(), 0);
        c.due("1 free", x.free(0), 2);
        c.due("1 clash", x.clash(), NOT);
        c.due("1 left", x.left(), 0);
        c.due("1 weight", x.rule(0, 1), 1);
        c.due("1 most", x.rule(1, 6), 6);
        c.due("1 programme", x.programme(16), NOT);
    }

    private static void shots(Check c) {
        ShadowBand x = new ShadowBand();
        c.due("2 frames 0", x.shot(0, 0), BAD);
        c.due("2 frames -1", x.shot(-1, 0), BAD);
        c.due("2 frames 2001", x.shot(2001, 0), BAD);
        c.due("2 mood -1", x.shot(1, -1), BAD);
        c.due("2 mood 6", x.shot(1, 6), BAD);
        c.due("2 refused ones are none", x.count(0), 0);
        for (int i = 0; i < 60; i++) {
            c.due("2 shot " + i, x.shot(i == 0 ? 1 : 2000, i % 6), i);
        }
        c.due("2 full", x.shot(1, 0), FULL);
        c.due("2 bad ahead of full", x.shot(0, 0), BAD);
        c.due("2 shots", x.count(0), 60);
        c.due("2 frames", x.count(1), 59 * 2000 + 1);
        c.due("2 one stretch", x.stretches(), 1);
    }

    private static void cues(Check c) {
        ShadowBand x = new ShadowBand();
        c.due("3 no shot", x.cue(0, 1), BAD);
        c.due("3 no shot 1", x.cue(1, 1), BAD);
        x.shot(10, 0);
        x.shot(20, 1);
        x.shot(30, 2);
        c.due("3 shot 0", x.cue(0, 0), BAD);
        c.due("3 shot 0 is one", x.cue(0, 1), BAD);
        c.due("3 shot -1", x.cue(-1, 1), BAD);
        c.due("3 shot 3", x.cue(3, 1), BAD);
        c.due("3 is 2", x.cue(1, 2), BAD);
        c.due("3 is -1", x.cue(1, -1), BAD);
        c.due("3 it was none", x.cue(1, 1), 0);
        c.due("3 it was one", x.cue(1, 1), 1);
        c.due("3 two stretches", x.stretches(), 2);
        c.due("3 no more", x.cue(1, 0), 1);
        c.due("3 it was none again", x.cue(1, 0), 0);
        c.due("3 one stretch", x.stretches(), 1);
    }

    private static void stretches(Check c) {
        ShadowBand x = new ShadowBand();
        c.due("5 none", x.stretch(0, 0), BAD);
        for (int i = 0; i < 6; i++) {
            x.shot(10 * (i + 1), i);
        }
        x.cue(2, 1);
        x.cue(5, 1);
        c.due("4 stretches", x.stretches(), 3);
        int[][] due = {{0, 1, 30, 0}, {2, 4, 120, 2}, {5, 5, 60, 5}};
        for (int s = 0; s < 3; s++) {
            for (int what = 0; what < 4; what++) {
                c.due("5 stretch " + s + " " + what, x.stretch(s, what), due[s][what]);
            }
        }
        c.due("5 stretch 3", x.stretch(3, 0), BAD);
        c.due("5 stretch -1", x.stretch(-1, 0), BAD);
        c.due("5 what 4", x.stretch(0, 4), BAD);
        c.due("5 what -1", x.stretch(0, -1), BAD);
        x.shot(5, 1);
        c.due("5 the last one goes on", x.stretch(2, 1), 6);
        c.due("5 with its frames", x.stretch(2, 2), 65);
    }

    private static void tenths(Check c) {
        ShadowBand x = new ShadowBand();
        c.due("6 no film", x.tenths(-1, 12), 0);
        c.due("6 no stretch", x.tenths(0, 12), BAD);
        c.due("6 no film, bad speed", x.tenths(-1, 31), BAD);
        x.shot(7, 0);
        x.shot(7, 0);
        x.shot(7, 0);
        x.cue(2, 1);
        // 7 frames alone last 5 at 13: a stretch is counted by all its frames together.
        c.due("6 together", x.tenths(0, 13), 10);
        c.due("6 one", x.tenths(1, 13), 5);
        c.due("6 all together", x.tenths(-1, 13), 16);
        c.due("6 at 12", x.tenths(0, 12), 11);
        c.due("6 at 30", x.tenths(0, 30), 4);
        c.due("6 speed 11", x.tenths(0, 11), BAD);
        c.due("6 speed 31", x.tenths(0, 31), BAD);
        c.due("6 stretch 2", x.tenths(2, 12), BAD);
        c.due("6 stretch -2", x.tenths(-2, 12), BAD);
        ShadowBand y = new ShadowBand();
        for (int i = 0; i < 60; i++) {
            y.shot(2000, 0);
        }
        c.due("6 the longest", y.tenths(-1, 12), 100000);
    }
}
