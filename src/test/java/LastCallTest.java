/**
 * "An object is used for at most 512 calls after it has been made": up to the last of them all
 * answers are as due, however dear the calls, and the clock, LATE, VAMPS and FEES at their most.
 */
public final class LastCallTest {
    private static final int CALLS = 512;
    private static final int NOT = ShadowBand.NOT;

    public static void main(String[] args) {
        Check c = new Check();
        programmesToTheLast(c, 0);
        programmesToTheLast(c, 1);
        programmesOfChangingFilms(c);
        clockToTheLast(c);
        vampsToTheLast(c);
        nightsToTheLast(c);
        telling(c);
        c.end();
    }

    /** Themes leave the stretch open, so both kinds of search are asked. */
    private static void programmesToTheLast(Check c, int themes) {
        ShadowBand x = Bands.stretches(8);
        for (int p = 0; p < 12; p++) {
            Bands.piece(x, 0, p < themes ? 1 : 0, 22 - p);
        }
        int calls = 16 + 24;
        int due = 0;
        for (int s = 0; s < 8; s++) {
            due += 10 * (s + 1);
        }
        for (; calls < CALLS - 8; calls++) {
            c.due("programme as call " + (calls + 1), x.programme(12), due);
        }
        for (int s = 0; s < 8; s++) {
            c.due("given to the last " + s, x.given(s, 0), 4 + s);
        }
    }

    /** Each search is about another film and other rules than the one ahead; some find none. */
    private static void programmesOfChangingFilms(Check c) {
        ShadowBand x = Bands.stretches(4);
        SlowBand y = new SlowBand();
        for (int s = 0; s < 4; s++) {
            y.shot(120, 0);
            y.cue(s, 1);
        }
        for (int p = 0; p < 3; p++) {
            int key = p == 2 ? 6 : 0;
            int theme = p == 1 ? 1 : 0;
            Bands.piece(x, key, theme, 10 + p);
            y.piece(100 * key + 1, 60060, theme, 0);
            y.block(p, 10 + p, 3, 0);
        }
        int calls = 8 + 6;
        for (int i = 0; calls + 4 <= CALLS; i++) {
            int shot = 1 + i % 3;
            int is = i / 3 % 2;
            c.due("cue " + i, x.cue(shot, is), y.cue(shot, is));
            c.due("rule " + i, x.rule(1, i % 7), y.rule(1, i % 7));
            c.due("programme " + i, x.programme(12), y.programme(12));
            c.due("given " + i, x.given(i % 4, 0), y.given(i % 4, 0));
            calls += 4;
        }
    }

    /** The clock at its most, under the most beats. */
    private static void clockToTheLast(Check c) {
        ShadowBand x = Bands.film(2000, 1);
        x.piece(1, 240240, 1, 0);
        x.block(0, 50, 3, 1);
        x.programme(12);
        x.begin();
        int calls = 8;
        int clock = 0;
        for (; calls < CALLS - 4; calls++) {
            clock += 600;
            c.due("the clock as call " + (calls + 1), x.go(600), clock);
        }
        c.due("beats to the last", x.now(8), clock * 400 / 1000);
        c.due("vamps to the last", x.now(3), (clock - 1000) / 125 + 1);
        c.due("seen to the last", x.seen(), 1);
        c.due("as call 512", x.go(125), clock + 125);
    }

    private static void vampsToTheLast(Check c) {
        ShadowBand x = Bands.film(1, 1);
        x.piece(1, 240240, 1, 0);
        x.block(0, 1, 3, 0);
        x.programme(30);
        x.begin();
        int calls = 8;
        for (; calls < CALLS - 1; calls++) {
            x.go(600);
        }
        c.due("a vamp each two tenths", x.now(3), 300 * (CALLS - 1 - 8));
    }

    private static void nightsToTheLast(Check c) {
        ShadowBand x = Bands.film(1);
        x.piece(1, 30030, 0, 999);
        x.block(0, 1, 3, 0);
        x.programme(30);
        int calls = 5;
        for (; calls < CALLS - 3; calls++) {
            x.begin();
        }
        c.due("played to the last", x.played(0), CALLS - 8);
        c.due("fees to the last", x.fees(), 999 * (CALLS - 8));
        c.due("counted to the last", x.count(5), CALLS - 8);
    }

    /** A full object still answers at its last call. */
    private static void telling(Check c) {
        ShadowBand x = Bands.full();
        for (int calls = 258; calls < CALLS - 2; calls++) {
            c.due("full to the last", x.shot(1, 0), ShadowBand.FULL);
        }
        c.due("no night", x.go(1), NOT);
        c.due("sixty stretches", x.programme(12), ShadowBand.BIG);
    }
}
