/** Promises 24 to 29: effect, hands, free, clash, left, count. */
public final class EffectsTest {
    private static final int BAD = ShadowBand.BAD;
    private static final int NOT = ShadowBand.NOT;
    private static final int FULL = ShadowBand.FULL;
    private static final int BIG = ShadowBand.BIG;

    public static void main(String[] args) {
        Check c = new Check();
        effects(c);
        handsAndFree(c);
        clashes(c);
        leftOut(c);
        counts(c);
        c.end();
    }

    private static void effects(Check c) {
        ShadowBand x = new ShadowBand();
        c.due("24 from -1", x.effect(-1, 5, 1), BAD);
        c.due("24 from is to", x.effect(5, 5, 1), BAD);
        c.due("24 from above to", x.effect(6, 5, 1), BAD);
        c.due("24 to 100001", x.effect(0, 100001, 1), BAD);
        c.due("24 from 100000", x.effect(100000, 100000, 1), BAD);
        c.due("24 hands 0", x.effect(0, 1, 0), BAD);
        c.due("24 hands 5", x.effect(0, 1, 5), BAD);
        c.due("24 none so far", x.count(4), 0);
        c.due("24 the last tenth", x.effect(99999, 100000, 4), 0);
        c.due("24 all", x.effect(0, 100000, 1), 1);
        for (int i = 2; i < 30; i++) {
            c.due("24 effect " + i, x.effect(i, i + 1, 1), i);
        }
        c.due("24 full", x.effect(0, 1, 1), FULL);
        c.due("24 bad ahead of full", x.effect(0, 1, 0), BAD);
        c.due("29 effects", x.count(4), 30);
        c.due("26 the last tenth", x.free(99999), -3);
    }

    private static void handsAndFree(Check c) {
        ShadowBand x = new ShadowBand();
        c.due("25 2 at first", x.hands(0), 2);
        c.due("25 they were 0", x.hands(4), 0);
        c.due("25 5", x.hands(5), BAD);
        c.due("25 -1", x.hands(-1), BAD);
        c.due("25 stay 4", x.hands(4), 4);
        x.effect(10, 20, 3);
        x.effect(19, 21, 4);
        c.due("26 ahead", x.free(9), 4);
        c.due("26 the first", x.free(10), 1);
        c.due("26 both", x.free(19), -3);
        c.due("26 the last one not", x.free(20), 0);
        c.due("26 behind", x.free(21), 4);
        c.due("26 the first of all", x.free(0), 4);
        c.due("26 the last of all", x.free(99999), 4);
        c.due("26 -1", x.free(-1), -99);
        c.due("26 100000", x.free(100000), -99);
    }

    private static void clashes(Check c) {
        ShadowBand y = new ShadowBand();
        y.effect(7, 9, 3);
        c.due("27 one effect alone", y.clash(), 7);
        ShadowBand x = new ShadowBand();
        x.effect(50, 60, 2);
        x.effect(40, 50, 2);
        c.due("27 none", x.clash(), NOT);
        x.effect(55, 70, 1);
        c.due("27 where the later one begins", x.clash(), 55);
        x.effect(45, 46, 1);
        c.due("27 the first of two", x.clash(), 45);
        x.hands(3);
        c.due("27 more hands", x.clash(), NOT);
        x.hands(0);
        c.due("27 no hands", x.clash(), 40);
        x.effect(0, 1, 1);
        c.due("27 at 0", x.clash(), 0);
    }

    private static void leftOut(Check c) {
        ShadowBand x = new ShadowBand();
        c.due("28 none", x.left(), 0);
        x.effect(0, 10, 1);
        c.due("28 none of one", x.left(), 0);
        x.effect(5, 15, 2);
        c.due("28 of two the first", x.left(), 1);
        x.effect(12, 20, 1);
        c.due("28 one rather than two", x.left(), 2);
        x.effect(30, 31, 4);
        c.due("28 one that is never played", x.left(), 2 + 8);
        ShadowBand y = new ShadowBand();
        y.hands(2);
        y.effect(0, 10, 1);
        y.effect(0, 10, 1);
        y.effect(0, 10, 1);
        y.effect(0, 10, 1);
        c.due("28 the first two", y.left(), 3);
        ShadowBand z = new ShadowBand();
        z.effect(0, 10, 1);
        z.effect(20, 30, 2);
        z.effect(0, 10, 2);
        z.effect(20, 30, 1);
        // {0,1}, {0,3}, {1,2} and {2,3} would do.
        c.due("28 the first by numbers", z.left(), 3);
        for (int i = 4; i < 12; i++) {
            z.effect(100 * i, 100 * i + 1, 4);
        }
        ShadowBand w = new ShadowBand();
        w.effect(0, 10, 3);
        w.effect(20, 30, 1);
        c.due("28 one effect that is too much alone", w.left(), 1);
        c.due("28 twelve", z.left(), 4095 - 4 - 8);
        z.effect(99, 100, 1);
        c.due("28 thirteen", z.left(), BIG);
    }

    private static void counts(Check c) {
        ShadowBand x = new ShadowBand();
        x.shot(11, 0);
        x.shot(22, 0);
        x.piece(1, 60060, 0, 0);
        x.piece(1, 60060, 0, 0);
        x.piece(1, 60060, 0, 0);
        x.block(0, 1, 3, 0);
        x.block(2, 1, 3, 0);
        x.block(2, 1, 3, 0);
        x.block(2, 1, 3, 0);
        for (int i = 0; i < 5; i++) {
            x.effect(i, i + 1, 1);
        }
        x.programme(12);
        for (int i = 0; i < 6; i++) {
            x.begin();
        }
        int[] due = {2, 33, 3, 4, 5, 6};
        for (int what = 0; what < 6; what++) {
            c.due("29 count " + what, x.count(what), due[what]);
        }
        c.due("29 what 6", x.count(6), BAD);
        c.due("29 what -1", x.count(-1), BAD);
    }
}
