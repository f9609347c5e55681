/** Promises 13 to 16: step, rule, programme, given. */
public final class ProgrammeTest {
    private static final int BAD = ShadowBand.BAD;
    private static final int NOT = ShadowBand.NOT;
    private static final int BIG = ShadowBand.BIG;

    public static void main(String[] args) {
        Check c = new Check();
        steps(c);
        rules(c);
        refusals(c);
        noPieceTwice(c);
        joins(c);
        themesAndOthers(c);
        firstOfSeveral(c);
        staysWhereRefused(c);
        eightAndTwelve(c);
        c.end();
    }

    private static void steps(Check c) {
        ShadowBand x = new ShadowBand();
        int[] ring = {0, 5, 2, 3, 4, 1, 6, 1, 4, 3, 2, 5};
        for (int a = 0; a < 12; a++) {
            for (int b = 0; b < 12; b++) {
                c.due("13 step " + a + " " + b, x.step(a, b), ring[(b - a + 12) % 12]);
            }
        }
        c.due("13 key 12", x.step(12, 0), BAD);
        c.due("13 key 12 second", x.step(0, 12), BAD);
        c.due("13 key -1", x.step(-1, 0), BAD);
        c.due("13 key -1 second", x.step(0, -1), BAD);
    }

    private static void rules(Check c) {
        ShadowBand x = new ShadowBand();
        c.due("14 weight was 1", x.rule(0, 99), 1);
        c.due("14 weight was 99", x.rule(0, 0), 99);
        c.due("14 weight was 0", x.rule(0, 5), 0);
        c.due("14 most was 6", x.rule(1, 0), 6);
        c.due("14 most was 0", x.rule(1, 3), 0);
        c.due("14 weight 100", x.rule(0, 100), BAD);
        c.due("14 weight -1", x.rule(0, -1), BAD);
        c.due("14 most 7", x.rule(1, 7), BAD);
        c.due("14 most -1", x.rule(1, -1), BAD);
        c.due("14 what 2", x.rule(2, 0), BAD);
        c.due("14 what -1", x.rule(-1, 0), BAD);
        c.due("14 weight stays", x.rule(0, 5), 5);
        c.due("14 most stays", x.rule(1, 3), 3);
    }

    private static void refusals(Check c) {
        ShadowBand x = new ShadowBand();
        c.due("15 speed 11", x.programme(11), BAD);
        c.due("15 speed 31", x.programme(31), BAD);
        c.due("15 no shots", x.programme(12), NOT);
        x.shot(120, 1);
        c.due("15 no pieces", x.programme(12), NOT);
        x.piece(1, 60060, 1, 0);
        x.block(0, 10, 3, 1);
        c.due("15 no piece of the mood", x.programme(12), NOT);
        x.piece(2, 60060, 1, 0);
        c.due("15 no way", x.programme(12), NOT);
        c.due("16 before any", x.given(0, 0), BAD);
        x.block(1, 10, 3, 1);
        c.due("15 found", x.programme(12), 0);
        c.due("16 piece", x.given(0, 0), 1);
        c.due("16 beats", x.given(0, 1), 10);
        c.due("16 misfit", x.given(0, 2), 0);
        c.due("16 step", x.given(0, 3), 0);
        c.due("16 what 4", x.given(0, 4), BAD);
        c.due("16 what -1", x.given(0, -1), BAD);
        c.due("16 stretch 1", x.given(1, 0), BAD);
        c.due("16 stretch -1", x.given(-1, 0), BAD);
        ShadowBand y = new ShadowBand();
        for (int i = 0; i < 9; i++) {
            y.shot(10, 0);
            y.cue(i, 1);
        }
        c.due("15 nine stretches without pieces", y.programme(12), BIG);
        c.due("15 bad ahead of big", y.programme(11), BAD);
        y.cue(8, 0);
        c.due("15 eight stretches without pieces", y.programme(12), NOT);
    }

    /** Two stretches of 100 tenths; piece 0 fits them best and is no theme. */
    private static ShadowBand two(int theme) {
        ShadowBand x = new ShadowBand();
        x.shot(120, 0);
        x.shot(120, 0);
        x.cue(1, 1);
        x.piece(1, 60060, theme, 0);
        x.block(0, 10, 3, 0);
        x.piece(1, 60060, 0, 0);
        x.block(1, 13, 3, 0);
        return x;
    }

    private static void noPieceTwice(Check c) {
        ShadowBand x = two(0);
        c.due("15 no piece twice", x.programme(12), 30);
        c.due("16 the lesser first", x.given(0, 0), 0);
        c.due("16 the other one", x.given(1, 0), 1);
        c.due("16 its misfit", x.given(1, 2), 30);
        c.due("16 its beats", x.given(1, 1), 13);
        ShadowBand y = two(1);
        c.due("15 a theme twice", y.programme(12), 0);
        c.due("16 a theme twice", y.given(1, 0), 0);
        ShadowBand z = two(0);
        z.shot(120, 0);
        z.cue(2, 1);
        c.due("15 three stretches, two pieces", z.programme(12), NOT);
    }

    /** Stretch 0 can have piece 0 alone; stretch 1 piece 1 (far, fits) or 2 (near, misses by 20). */
    private static ShadowBand farOrNear() {
        ShadowBand x = new ShadowBand();
        x.shot(120, 0);
        x.shot(120, 1);
        x.cue(1, 1);
        x.piece(1, 60060, 0, 0);
        x.block(0, 10, 3, 0);
        x.piece(602, 60060, 0, 0);
        x.block(1, 10, 3, 0);
        x.piece(702, 60060, 0, 0);
        x.block(2, 12, 3, 0);
        return x;
    }

    private static void joins(Check c) {
        ShadowBand x = farOrNear();
        c.due("15 the far one", x.programme(12), 6);
        c.due("16 the far one", x.given(1, 0), 1);
        c.due("16 step", x.given(0, 3), 6);
        c.due("16 last step", x.given(1, 3), 0);
        x.rule(0, 4);
        c.due("15 24 for both: the lesser", x.programme(12), 24);
        c.due("16 the lesser", x.given(1, 0), 1);
        x.rule(0, 5);
        c.due("15 the near one", x.programme(12), 25);
        c.due("16 the near one", x.given(1, 0), 2);
        c.due("16 its step", x.given(0, 3), 1);
        x.rule(0, 0);
        c.due("15 joins for nothing", x.programme(12), 0);
        x.rule(1, 5);
        c.due("15 too far", x.programme(12), 20);
        x.rule(1, 0);
        c.due("15 both too far", x.programme(12), NOT);
        c.due("16 stays", x.given(1, 0), 2);
        ShadowBand y = new ShadowBand();
        y.shot(120, 1);
        y.shot(120, 0);
        y.cue(1, 1);
        y.piece(1, 60060, 0, 0);
        y.block(0, 10, 3, 0);
        y.piece(102, 60060, 0, 0);
        y.block(1, 10, 3, 0);
        c.due("15 down to the first piece", y.programme(12), 5);
        c.due("16 down to the first piece", y.given(0, 3), 5);
    }

    /** The same set of used pieces may be met in several stretches where there are themes. */
    private static void themesAndOthers(Check c) {
        ShadowBand x = new ShadowBand();
        int[] frames = {120, 240, 120, 240};
        for (int s = 0; s < 4; s++) {
            x.shot(frames[s], 0);
            x.cue(s, 1);
        }
        x.piece(1, 60060, 1, 0);
        x.block(0, 15, 3, 0);
        x.piece(701, 60060, 0, 0);
        x.block(1, 20, 3, 0);
        // The theme misses each stretch by 50; piece 1 fits one of the long ones, joins cost 1.
        c.due("15 one other among themes", x.programme(12), 151);
        int[] due = {0, 0, 0, 1};
        for (int s = 0; s < 4; s++) {
            c.due("16 one other among themes " + s, x.given(s, 0), due[s]);
        }
        x.rule(0, 60);
        c.due("15 a dear join", x.programme(12), 200);
        c.due("16 the theme alone", x.given(3, 0), 0);
    }

    private static void firstOfSeveral(Check c) {
        ShadowBand x = new ShadowBand();
        for (int s = 0; s < 4; s++) {
            x.shot(120, 0);
            x.cue(s, 1);
        }
        for (int p = 0; p < 6; p++) {
            x.piece(1, 60060, p == 4 ? 1 : 0, 0);
            x.block(p, 10, 3, 0);
        }
        c.due("15 all alike", x.programme(12), 0);
        for (int s = 0; s < 4; s++) {
            c.due("16 the first of all", x.given(s, 0), s);
        }
        ShadowBand y = new ShadowBand();
        y.shot(120, 0);
        y.shot(120, 1);
        y.cue(1, 1);
        y.piece(3, 60060, 0, 0);
        y.block(0, 10, 3, 0);
        y.piece(1, 60060, 0, 0);
        y.block(1, 10, 3, 0);
        c.due("15 the lesser one is needed later", y.programme(12), 0);
        c.due("16 so it is kept", y.given(0, 0), 1);
        c.due("16 for then", y.given(1, 0), 0);
    }

    private static void staysWhereRefused(Check c) {
        ShadowBand x = farOrNear();
        x.programme(12);
        c.due("15 bad", x.programme(0), BAD);
        c.due("16 after bad", x.given(1, 0), 1);
        x.shot(100, 5);
        x.cue(2, 1);
        c.due("15 not", x.programme(12), NOT);
        c.due("16 after not", x.given(1, 1), 10);
        c.due("16 not by the film of now", x.given(2, 0), BAD);
        for (int i = 3; i < 9; i++) {
            x.shot(100, 5);
            x.cue(i, 1);
        }
        c.due("15 big", x.programme(12), BIG);
        c.due("16 after big", x.given(0, 3), 6);
        c.due("16 begin by it", x.begin(), 2);
    }

    /** Every stretch wants the same piece, so all sets of used ones have to be weighed. */
    private static void eightAndTwelve(Check c) {
        ShadowBand x = new ShadowBand();
        for (int s = 0; s < 8; s++) {
            x.shot(120, 0);
            x.cue(s, 1);
        }
        for (int p = 0; p < 12; p++) {
            x.piece(1, 60060, 0, 0);
            x.block(p, 10 + 12 - p, 3, 0);
        }
        // Misfits are 10, 20 .. 120 for pieces 11, 10 .. 0: the eight last ones, in their order.
        c.due("15 eight of twelve", x.programme(12), 360);
        for (int s = 0; s < 8; s++) {
            c.due("16 eight of twelve " + s, x.given(s, 0), 4 + s);
        }
    }
}
