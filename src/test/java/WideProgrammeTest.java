/** Programmes of many stretches and pieces against the trial of all, one object growing. */
public final class WideProgrammeTest {
    private static final int RUNS = 60;
    private long state;

    public static void main(String[] args) {
        Check c = new Check();
        for (int run = 0; run < RUNS && c.isClean(); run++) {
            new WideProgrammeTest().play(c, run);
        }
        c.end();
    }

    private int any(int n) {
        state = state * 6364136223846793005L + 1442695040888963407L;
        return (int) ((state >>> 33) % n);
    }

    private void play(Check c, int run) {
        state = run * 104729L + 5;
        ShadowBand x = new ShadowBand();
        SlowBand y = new SlowBand();
        int themesIn = 1 + any(8);
        int found = 0;
        for (int i = 0; i < 12; i++) {
            addPiece(x, y, i, any(themesIn) == 0 ? 1 : 0);
            if (i >= 2 && i < 10) {
                addStretch(x, y);
            }
            x.rule(0, i);
            y.rule(0, i);
            int most = any(4) == 0 ? 3 : 6;
            x.rule(1, most);
            y.rule(1, most);
            int speed = 12 + any(19);
            String when = "run " + run + " with " + (i + 1) + " pieces: ";
            int cost = x.programme(speed);
            c.due(when + "programme", cost, y.programme(speed));
            found += cost >= 0 ? 1 : 0;
            for (int s = 0; s < 8; s++) {
                for (int what = 0; what < 4; what++) {
                    c.due(when + "given " + s + " " + what, x.given(s, what), y.given(s, what));
                }
            }
        }
        c.hold("run " + run + " found some", found > 0 || run > 0);
    }

    private void addStretch(ShadowBand x, SlowBand y) {
        int frames = 60 + 30 * any(6);
        int mood = any(3);
        int shot = x.shot(frames, mood);
        y.shot(frames, mood);
        x.cue(shot, 1);
        y.cue(shot, 1);
    }

    /** Few kinds of lengths and keys, so that many programmes cost alike. */
    private void addPiece(ShadowBand x, SlowBand y, int p, int theme) {
        int moods = any(3) == 0 ? 1 + any(7) : 1 << any(3);
        int what = 100 * (7 * any(4) % 12) + moods;
        x.piece(what, 60061, theme, 0);
        y.piece(what, 60061, theme, 0);
        int beats = 5 + any(10);
        x.block(p, beats, 3, 0);
        y.block(p, beats, 3, 0);
    }
}
