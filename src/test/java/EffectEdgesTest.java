/** The effects' edges (terms 4, promises 24 to 29), sentence by sentence. */
public final class EffectEdgesTest {
    private static final int BAD = ShadowBand.BAD;
    private static final int NOT = ShadowBand.NOT;
    private static final int FULL = ShadowBand.FULL;
    private static final int BIG = ShadowBand.BIG;

    public static void main(String[] args) {
        Check c = new Check();
        rangesOfEffect(c);
        thirtyEffects(c);
        handsFromNoneToFour(c);
        rangesOfFree(c);
        theLastTenthNot(c);
        belowNone(c);
        firstClash(c);
        nothingToLeaveOut(c);
        fewestLeftOut(c);
        firstByNumbers(c);
        twelveAtMost(c);
        rangesOfCount(c);
        fullCounts(c);
        c.end();
    }

    /** "BAD (from 0 .. 99999, below to, at most 100000)"; "HANDS (1 .. 4)". */
    private static void rangesOfEffect(Check c) {
        c.range("from", 0, 99999, BAD, v -> new ShadowBand().effect(v, 100000, 1));
        c.range("from below to", 0, 499, BAD, v -> new ShadowBand().effect(v, 500, 1));
        c.range("to", 1, 100000, BAD, v -> new ShadowBand().effect(0, v, 1));
        c.range("to above from", 501, 100000, BAD, v -> new ShadowBand().effect(500, v, 1));
        c.range("hands of an effect", 1, 4, BAD, v -> new ShadowBand().effect(0, 1, v));
        c.due("the last tenth of all", new ShadowBand().effect(99999, 100000, 1), 0);
        c.due("from 100000", new ShadowBand().effect(100000, 100001, 1), BAD);
        c.due("from as to", new ShadowBand().effect(99999, 99999, 1), BAD);
        c.due("the outermost numbers",
            new ShadowBand().effect(Integer.MIN_VALUE, Integer.MAX_VALUE, 1), BAD);
    }

    /** "EFFECTS 0 .. 29"; FULL. */
    private static void thirtyEffects(Check c) {
        ShadowBand x = new ShadowBand();
        for (int i = 0; i < 29; i++) {
            x.effect(i, i + 1, 1);
        }
        c.due("the last effect", x.effect(50, 51, 4), 29);
        c.due("no effect 30", x.effect(60, 61, 4), FULL);
        c.due("bad is named ahead of full: from", x.effect(-1, 61, 4), BAD);
        c.due("bad is named ahead of full: to", x.effect(60, 60, 4), BAD);
        c.due("bad is named ahead of full: hands", x.effect(60, 61, 5), BAD);
        c.due("thirty", x.count(4), 30);
        c.due("the last one counts", x.free(50), -2);
        c.due("the refused one does not", x.free(60), 2);
        c.due("the last one clashes", x.clash(), 50);
    }

    /** "THE DRUMMER has HANDS (0 .. 4, told; 2 at first)"; "what they were. BAD." */
    private static void handsFromNoneToFour(Check c) {
        c.range("hands", 0, 4, BAD, v -> new ShadowBand().hands(v));
        ShadowBand x = new ShadowBand();
        c.due("two at first", x.hands(4), 2);
        c.due("four", x.free(0), 4);
        c.due("four were", x.hands(0), 4);
        c.due("none", x.free(0), 0);
        c.due("none were", x.hands(1), 0);
        c.due("one was", x.hands(1), 1);
    }

    /** "FREE HANDS in a TENTH (0 .. 99999). -99: BAD." */
    private static void rangesOfFree(Check c) {
        c.range("tenth", 0, 99999, -99, v -> new ShadowBand().free(v));
        ShadowBand x = new ShadowBand();
        x.effect(0, 100000, 1);
        c.due("an effect of all tenths, at the first", x.free(0), 1);
        c.due("an effect of all tenths, at the last", x.free(99999), 1);
        c.due("and none behind", x.free(100000), -99);
    }

    /** "from a TENTH to another one (the last one not)". */
    private static void theLastTenthNot(Check c) {
        ShadowBand x = new ShadowBand();
        x.effect(7, 8, 1);
        c.due("ahead", x.free(6), 2);
        c.due("one tenth alone", x.free(7), 1);
        c.due("the last one not", x.free(8), 2);
        ShadowBand y = new ShadowBand();
        y.effect(7, 10, 2);
        y.effect(10, 13, 2);
        c.due("the last of the first", y.free(9), 0);
        c.due("the first of the second", y.free(10), 0);
        c.due("one behind the other is no clash", y.clash(), NOT);
        y.effect(9, 10, 1);
        c.due("the tenth ahead is one", y.clash(), 9);
    }

    /** "(below 0: too few)": all thirty effects at once. */
    private static void belowNone(Check c) {
        ShadowBand x = new ShadowBand();
        x.hands(0);
        for (int i = 0; i < 24; i++) {
            x.effect(5, 6, 4);
        }
        x.effect(5, 6, 2);
        c.due("98 hands too few is no BAD", x.free(5), -98);
        x.effect(5, 6, 1);
        c.due("as many too few as BAD", x.free(5), -99);
        for (int i = 0; i < 4; i++) {
            x.effect(5, 6, 4);
        }
        c.due("as many too few as can be", x.free(5), -115);
    }

    /** "CLASH: the first TENTH with too few; NOT: none." */
    private static void firstClash(Check c) {
        ShadowBand x = new ShadowBand();
        c.due("no effects", x.clash(), NOT);
        x.hands(0);
        c.due("no effects, no hands", x.clash(), NOT);
        x.hands(4);
        x.effect(99999, 100000, 4);
        c.due("none is left, but not too few", x.clash(), NOT);
        x.hands(3);
        c.due("at the last tenth of all", x.clash(), 99999);
        x.effect(50, 60, 2);
        x.effect(40, 55, 1);
        c.due("three of three", x.clash(), 99999);
        x.hands(2);
        c.due("three of two, where the later one begins", x.clash(), 50);
        x.effect(0, 100000, 1);
        c.due("where two are enough", x.clash(), 50);
        x.hands(1);
        c.due("where the earlier one begins", x.clash(), 40);
        x.hands(0);
        c.due("at the first tenth of all", x.clash(), 0);
    }

    private static void nothingToLeaveOut(Check c) {
        ShadowBand x = new ShadowBand();
        c.due("no effects", x.left(), 0);
        x.hands(0);
        c.due("no effects, no hands", x.left(), 0);
        x.hands(2);
        x.effect(0, 1, 2);
        x.effect(1, 2, 2);
        c.due("just enough hands", x.left(), 0);
        x.hands(1);
        c.due("too few for each", x.left(), 3);
    }

    /** "the fewest EFFECTS that are left out so that no TENTH has too few". */
    private static void fewestLeftOut(Check c) {
        ShadowBand x = new ShadowBand();
        x.effect(0, 10, 1);
        x.effect(10, 20, 1);
        x.effect(20, 30, 1);
        x.effect(0, 30, 2);
        c.due("the one of four hands rather than three", x.left(), 8);
        ShadowBand y = new ShadowBand();
        y.effect(0, 10, 2);
        y.effect(5, 15, 2);
        y.effect(10, 20, 2);
        y.effect(15, 25, 2);
        c.due("a chain: the second and the fourth, or others; the first of all", y.left(), 5);
        ShadowBand z = new ShadowBand();
        z.effect(0, 2, 1);
        z.effect(1, 3, 1);
        z.effect(2, 4, 1);
        c.due("three effects, but never three at once", z.left(), 0);
        z.effect(1, 3, 1);
        c.due("one in the middle is enough", z.left(), 2);
    }

    /** "of several sets the first (by numbers of what is left out, ...)". */
    private static void firstByNumbers(Check c) {
        ShadowBand x = new ShadowBand();
        x.hands(1);
        x.effect(0, 1, 1);
        x.effect(0, 1, 1);
        c.due("0, not 1", x.left(), 1);
        x.effect(10, 11, 1);
        x.effect(10, 11, 1);
        c.due("0 and 2, not 1 and 2, nor 0 and 3", x.left(), 5);
        ShadowBand y = new ShadowBand();
        y.hands(1);
        y.effect(0, 1, 1);
        y.effect(10, 11, 1);
        y.effect(10, 11, 1);
        y.effect(0, 1, 1);
        c.due("0 and 1, not 1 and 3, though its bits are more than those of none", y.left(), 3);
        ShadowBand z = new ShadowBand();
        z.effect(0, 10, 1);
        z.effect(0, 10, 1);
        z.effect(0, 10, 2);
        c.due("one of three, not the first two", z.left(), 4);
        ShadowBand w = new ShadowBand();
        w.hands(0);
        w.effect(9, 10, 1);
        w.effect(8, 9, 1);
        w.hands(4);
        w.effect(0, 20, 4);
        c.due("one that is met by both", w.left(), 4);
    }

    /** "12 EFFECTS at most, else BIG". */
    private static void twelveAtMost(Check c) {
        ShadowBand x = new ShadowBand();
        x.hands(0);
        int all = 0;
        for (int i = 0; i < 12; i++) {
            x.effect(i, i + 1, 1);
            all |= 1 << i;
            c.due("all of " + (i + 1), x.left(), all);
        }
        x.hands(1);
        c.due("none of twelve", x.left(), 0);
        x.effect(20, 21, 1);
        c.due("thirteen, with nothing to leave out", x.left(), BIG);
        x.hands(0);
        c.due("thirteen, with all to leave out", x.left(), BIG);
        c.due("a clash is found among thirteen", x.clash(), 0);
        ShadowBand y = new ShadowBand();
        y.hands(1);
        for (int i = 0; i < 12; i++) {
            y.effect(5, 6, 1);
        }
        c.due("the first eleven of twelve", y.left(), 2047);
        c.due("thirty", Bands.full().left(), BIG);
    }

    /** "How many: 0 SHOTS, ... 5 PIECES PLAYED. BAD." */
    private static void rangesOfCount(Check c) {
        c.range("what of a count", 0, 5, BAD, v -> new ShadowBand().count(v));
        c.range("what of a full count", 0, 5, BAD, v -> Bands.full().count(v));
    }

    private static void fullCounts(Check c) {
        ShadowBand x = Bands.full();
        c.due("shots", x.count(0), 60);
        c.due("frames", x.count(1), 60 * 2000 - 59 * 30);
        c.due("pieces", x.count(2), 12);
        c.due("blocks", x.count(3), 96);
        c.due("effects", x.count(4), 30);
        c.due("none played", x.count(5), 0);
    }
}
