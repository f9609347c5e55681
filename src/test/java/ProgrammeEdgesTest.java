/** The programmes' edges (terms 2, promises 13 to 16), sentence by sentence. */
public final class ProgrammeEdgesTest {
    private static final int BAD = ShadowBand.BAD;
    private static final int NOT = ShadowBand.NOT;
    private static final int BIG = ShadowBand.BIG;

    public static void main(String[] args) {
        Check c = new Check();
        roundTheRing(c);
        rangesOfStep(c);
        rangesOfRule(c);
        rangesOfProgramme(c);
        nothingToPlay(c);
        eightStretchesAtMost(c);
        eachMoodByItsBit(c);
        noPieceTwiceButThemes(c);
        stepsUpToMost(c);
        weightFromNoneToMost(c);
        noJoinAheadOfTheFirst(c);
        aPieceForOneStretchAlone(c);
        leastAndGreatestCost(c);
        theLesserPieceFirst(c);
        eachPieceOfItsBest(c);
        allStretchesAndPieces(c);
        rangesOfGiven(c);
        stepOfTheLastStretch(c);
        theOneFoundLast(c);
        theOneAheadStays(c);
        c.end();
    }

    /** "(7 (KEY of the second less KEY of the first)) as 0 .. 11, or 12 less that". */
    private static void roundTheRing(Check c) {
        ShadowBand x = new ShadowBand();
        int key = 0;
        for (int fifths = 0; fifths < 12; fifths++) {
            int due = Math.min(fifths, 12 - fifths);
            c.due(fifths + " fifths up from 0", x.step(0, key), due);
            c.due(fifths + " fifths down to 0", x.step(key, 0), due);
            c.due(fifths + " fifths up from 11", x.step(11, (11 + key) % 12), due);
            c.due("no way to itself " + key, x.step(key, key), 0);
            key = (key + 7) % 12;
        }
        c.due("the farthest", x.step(11, 5), 6);
        c.due("the last to the first", x.step(11, 0), 5);
        c.due("the first to the last", x.step(0, 11), 5);
    }

    private static void rangesOfStep(Check c) {
        c.range("first key", 0, 11, BAD, v -> new ShadowBand().step(v, 0));
        c.range("second key", 0, 11, BAD, v -> new ShadowBand().step(0, v));
    }

    /** "WEIGHT (0 .. 99, told; 1 at first)"; "MOST (0 .. 6, told; 6 at first)". */
    private static void rangesOfRule(Check c) {
        c.range("what of a rule", 0, 1, BAD, v -> new ShadowBand().rule(v, 0));
        c.range("weight", 0, 99, BAD, v -> new ShadowBand().rule(0, v));
        c.range("most", 0, 6, BAD, v -> new ShadowBand().rule(1, v));
        ShadowBand x = new ShadowBand();
        c.due("weight is 1 at first", x.rule(0, 99), 1);
        c.due("most is 6 at first", x.rule(1, 0), 6);
        c.due("weight was 99, whatever most is", x.rule(0, 0), 99);
        c.due("most was 0, whatever weight is", x.rule(1, 6), 0);
        c.due("weight was 0", x.rule(0, 1), 0);
        c.due("most was 6", x.rule(1, 6), 6);
    }

    private static ShadowBand ready() {
        ShadowBand x = Bands.stretches(1);
        Bands.piece(x, 0, 0, 10);
        return x;
    }

    private static void rangesOfProgramme(Check c) {
        c.range("speed", 12, 30, BAD, v -> ready().programme(v));
        c.range("speed without shots", 12, 30, BAD, v -> new ShadowBand().programme(v));
        c.range("speed of nine stretches", 12, 30, BAD, v -> Bands.stretches(9).programme(v));
        c.due("at 12: 100 tenths", ready().programme(12), 0);
        c.due("at 30: 40 tenths", ready().programme(30), 60);
    }

    /** "NOT: there is none"; "NOT: also no SHOTS". */
    private static void nothingToPlay(Check c) {
        ShadowBand x = new ShadowBand();
        c.due("neither shots nor pieces", x.programme(12), NOT);
        Bands.piece(x, 0, 1, 10);
        c.due("no shots", x.programme(12), NOT);
        x.shot(120, 0);
        c.due("one shot, one piece", x.programme(12), 0);
        ShadowBand y = Bands.stretches(1);
        c.due("no pieces", y.programme(12), NOT);
        y.piece(1, 60060, 1, 0);
        c.due("a piece without blocks", y.programme(12), NOT);
        y.block(0, 10, 2, 1);
        c.due("a piece without a way", y.programme(12), NOT);
        y.piece(62, 60060, 1, 0);
        y.block(1, 10, 3, 1);
        c.due("a piece of all moods but this one", y.programme(12), NOT);
        y.block(0, 10, 1, 0);
        c.due("the exit is none of the next ones", y.programme(12), NOT);
        y.block(0, 10, 3, 0);
        c.due("a block that is entry and exit", y.programme(12), 0);
    }

    /** "(At most 8 STRETCHES, else BIG ...)". */
    private static void eightStretchesAtMost(Check c) {
        for (int n = 1; n <= 10; n++) {
            ShadowBand x = Bands.stretches(n);
            c.due(n + " stretches, no piece", x.programme(12), n <= 8 ? NOT : BIG);
            Bands.piece(x, 0, 1, 10);
            c.due(n + " stretches", x.programme(12), n <= 8 ? 0 : BIG);
            c.due(n + " stretches are given", x.begin(), n <= 8 ? n : NOT);
        }
        ShadowBand y = Bands.stretches(60);
        c.due("sixty stretches", y.programme(12), BIG);
        c.due("bad is named ahead of big", y.programme(31), BAD);
        for (int i = 8; i < 60; i++) {
            y.cue(i, 0);
        }
        Bands.piece(y, 0, 1, 10);
        c.due("sixty shots in eight stretches", y.programme(12), 5200);
    }

    /** "a PIECE that has its MOOD": bits of moods 0 .. 5. */
    private static void eachMoodByItsBit(Check c) {
        for (int mood = 0; mood <= 5; mood++) {
            ShadowBand x = new ShadowBand();
            x.shot(120, mood);
            x.piece(63 - (1 << mood), 60060, 1, 0);
            x.block(0, 10, 3, 0);
            c.due("all moods but " + mood, x.programme(12), NOT);
            x.piece(1 << mood, 60060, 1, 0);
            x.block(1, 10, 3, 0);
            c.due("mood " + mood, x.programme(12), 0);
            c.due("by the piece of mood " + mood, x.given(0, 0), 1);
            x.shot(12, (mood + 1) % 6);
            c.due("the first shot's mood tells " + mood, x.programme(12), 10);
            c.due("by the same piece " + mood, x.given(0, 0), 1);
            x.cue(1, 1);
            c.due("the second shot's mood as a cue " + mood, x.programme(12), 90);
            c.due("by the other piece " + mood, x.given(1, 0), 0);
        }
    }

    /** "no PIECE twice but THEMES". */
    private static void noPieceTwiceButThemes(Check c) {
        ShadowBand x = Bands.stretches(8);
        for (int p = 0; p < 7; p++) {
            Bands.piece(x, 0, 0, 10);
        }
        c.due("eight stretches, seven pieces", x.programme(12), NOT);
        x.cue(7, 0);
        c.due("seven stretches, the last one twice as long", x.programme(12), 100);
        x.cue(7, 1);
        Bands.piece(x, 0, 0, 10);
        c.due("eight stretches, eight pieces", x.programme(12), 0);
        for (int s = 0; s < 8; s++) {
            c.due("each once " + s, x.given(s, 0), s);
        }
        ShadowBand y = Bands.stretches(8);
        Bands.piece(y, 0, 1, 10);
        c.due("eight stretches, one theme", y.programme(12), 0);
        c.due("to the last", y.given(7, 0), 0);
        ShadowBand z = Bands.stretches(3);
        Bands.piece(z, 0, 0, 10);
        Bands.piece(z, 0, 1, 20);
        c.due("a piece once, a theme twice", z.programme(12), 200);
        int[] due = {0, 1, 1};
        for (int s = 0; s < 3; s++) {
            c.due("a piece once, a theme twice: " + s, z.given(s, 0), due[s]);
        }
        ShadowBand w = Bands.stretches(3);
        w.shot(120, 1);
        w.cue(3, 1);
        Bands.piece(w, 0, 0, 10);
        w.piece(2, 60060, 1, 0);
        w.block(1, 10, 3, 0);
        c.due("no piece twice with another one between", w.programme(12), NOT);
    }

    /** Two stretches whose pieces are so many fifths apart. */
    private static ShadowBand apart(int fifths) {
        ShadowBand x = new ShadowBand();
        x.shot(120, 0);
        x.shot(120, 1);
        x.cue(1, 1);
        Bands.piece(x, 0, 0, 10);
        x.piece(100 * (7 * fifths % 12) + 2, 60060, 0, 0);
        x.block(1, 10, 3, 0);
        return x;
    }

    /** "with a STEP above MOST (0 .. 6, told; 6 at first) it can't be". */
    private static void stepsUpToMost(Check c) {
        for (int fifths = 0; fifths <= 6; fifths++) {
            c.due(fifths + " fifths at first", apart(fifths).programme(12), fifths);
            for (int most = 0; most <= 6; most++) {
                ShadowBand x = apart(fifths);
                x.rule(1, most);
                c.due(fifths + " fifths, most " + most, x.programme(12),
                    fifths <= most ? fifths : NOT);
                ShadowBand y = apart(12 - fifths);
                y.rule(1, most);
                c.due(fifths + " fifths down, most " + most, y.programme(12),
                    fifths <= most ? fifths : NOT);
            }
        }
        ShadowBand x = apart(6);
        x.rule(1, 0);
        x.cue(1, 0);
        c.due("one stretch has no join", x.programme(12), 100);
    }

    /** "A JOIN of two STRETCHES costs STEP times WEIGHT (0 .. 99 ...)". */
    private static void weightFromNoneToMost(Check c) {
        int[] weights = {0, 1, 2, 98, 99};
        for (int weight : weights) {
            for (int fifths = 0; fifths <= 6; fifths++) {
                ShadowBand x = apart(fifths);
                x.rule(0, weight);
                c.due(fifths + " fifths of weight " + weight, x.programme(12), fifths * weight);
            }
        }
    }

    /** "A JOIN of two STRETCHES": the first one has none ahead of it. */
    private static void noJoinAheadOfTheFirst(Check c) {
        ShadowBand x = Bands.stretches(1);
        Bands.piece(x, 0, 0, 20);
        Bands.piece(x, 6, 0, 10);
        c.due("whatever the key", x.programme(12), 0);
        c.due("whatever the key, given", x.given(0, 0), 1);
        Bands.piece(x, 0, 0, 10);
        c.due("two fit", x.programme(12), 0);
        c.due("the lesser one, though far from piece 0", x.given(0, 0), 1);
        x.rule(1, 0);
        c.due("two fit, no step is allowed", x.programme(12), 0);
        c.due("the lesser one still", x.given(0, 0), 1);
    }

    /** Piece 0 can be played in the first stretch alone; behind it another one is still unused. */
    private static void aPieceForOneStretchAlone(Check c) {
        ShadowBand x = new ShadowBand();
        int[] moods = {0, 1, 1};
        for (int s = 0; s < 3; s++) {
            x.shot(120, moods[s]);
            x.cue(s, 1);
        }
        int[] moodsOfPieces = {1, 3, 2, 2};
        int[] beats = {13, 10, 10, 15};
        for (int p = 0; p < 4; p++) {
            x.piece(moodsOfPieces[p], 60060, 0, 0);
            x.block(p, beats[p], 3, 0);
        }
        c.due("30 by piece 0, 50 without it", x.programme(12), 30);
        for (int s = 0; s < 3; s++) {
            c.due("each in its turn " + s, x.given(s, 0), s);
        }
    }

    private static void leastAndGreatestCost(Check c) {
        ShadowBand x = new ShadowBand();
        for (int i = 0; i < 60; i++) {
            x.shot(2000, 0);
        }
        x.piece(1, 240240, 0, 0);
        x.block(0, 1, 3, 0);
        c.due("100000 tenths for one beat", x.programme(12), 99998);
        c.due("given so", x.given(0, 2), 99998);
        ShadowBand y = Bands.film(1, 1, 1, 1, 1, 1, 1, 1);
        y.rule(0, 99);
        for (int p = 0; p < 8; p++) {
            y.piece(600 * (p % 2) + 1, 30030, 0, 0);
            y.block(p, 50, 2, 2);
            y.block(p, 50, 0, 4);
            y.block(p, 50, 0, 8);
            y.block(p, 50, 0, 16);
            y.block(p, 50, 0, 32);
            y.block(p, 50, 0, 64);
            y.block(p, 50, 0, 128);
            y.block(p, 50, 1, 0);
        }
        c.due("the pieces of one key, then the others", y.programme(30), 8 * 8000 + 6 * 99);
        ShadowBand z = Bands.film(1, 1, 1, 1, 1, 1, 1, 1);
        z.rule(0, 99);
        Bands.piece(z, 0, 1, 64);
        c.due("no tenths, 64 beats", z.programme(30), 8 * 640);
    }

    /** "of several the first: STRETCH by STRETCH the lesser PIECE". */
    private static void theLesserPieceFirst(Check c) {
        ShadowBand x = Bands.stretches(3);
        for (int p = 0; p < 12; p++) {
            Bands.piece(x, 0, 0, 10);
        }
        c.due("twelve alike", x.programme(12), 0);
        for (int s = 0; s < 3; s++) {
            c.due("twelve alike " + s, x.given(s, 0), s);
        }
        ShadowBand y = Bands.stretches(2);
        Bands.piece(y, 0, 0, 12);
        Bands.piece(y, 0, 0, 8);
        Bands.piece(y, 0, 1, 12);
        c.due("20 and 20 in several ways", y.programme(12), 40);
        c.due("the first stretch tells first", y.given(0, 0), 0);
        c.due("then the second", y.given(1, 0), 1);
        ShadowBand z = Bands.film(120, 240);
        Bands.piece(z, 0, 0, 15);
        Bands.piece(z, 0, 0, 15);
        Bands.piece(z, 0, 0, 14);
        // 15 beats miss 50 of either stretch, 14 beats miss 40 of the first one.
        c.due("the least cost comes ahead of the lesser piece", z.programme(12), 90);
        c.due("so the greater piece", z.given(0, 0), 2);
        c.due("then the lesser one", z.given(1, 0), 0);
    }

    /** "and its BEST for the STRETCH's TENTHS". */
    private static void eachPieceOfItsBest(Check c) {
        ShadowBand x = Bands.film(1, 120, 180, 181, 2000);
        x.piece(1, 60060, 1, 0);
        x.block(0, 10, 3, 1);
        c.due("five stretches", x.programme(12), 100 + 0 + 50 + 50 + 66);
        int[] beats = {10, 10, 10, 10, 160};
        int[] misfits = {100, 0, 50, 50, 66};
        for (int s = 0; s < 5; s++) {
            c.due("beats of " + s, x.given(s, 1), beats[s]);
            c.due("misfit of " + s, x.given(s, 2), misfits[s]);
            c.due("the best of " + s, x.best(0, x.tenths(s, 12)), beats[s]);
        }
    }

    /** Eight stretches and twelve pieces, each number of themes among them. */
    private static void allStretchesAndPieces(Check c) {
        for (int themes = 0; themes <= 12; themes++) {
            ShadowBand x = Bands.stretches(8);
            for (int p = 0; p < 12; p++) {
                Bands.piece(x, 0, p >= 12 - themes ? 1 : 0, 11 + p);
            }
            // Misfits are 10, 20 .. 120: themes, the last ones, are dear but may come again.
            int cost = 0;
            for (int s = 0; s < 8; s++) {
                int firstTheme = 12 - themes;
                int p = themes == 0 ? s : Math.min(s, firstTheme);
                cost += 10 * (p + 1);
            }
            c.due("themes: " + themes, x.programme(12), cost);
            for (int s = 0; s < 8; s++) {
                int due = themes == 0 ? s : Math.min(s, 12 - themes);
                c.due("themes: " + themes + ", stretch " + s, x.given(s, 0), due);
            }
        }
    }

    private static ShadowBand found(int stretches) {
        ShadowBand x = Bands.stretches(stretches);
        Bands.piece(x, 0, 1, 10);
        x.programme(12);
        return x;
    }

    /** "Of STRETCH s in THE PROGRAMME found last ... BAD: also before any." */
    private static void rangesOfGiven(Check c) {
        c.range("one stretch given", 0, 0, BAD, v -> found(1).given(v, 1));
        c.range("eight stretches given", 0, 7, BAD, v -> found(8).given(v, 1));
        c.range("what of one given", 0, 3, BAD, v -> found(8).given(7, v));
        ShadowBand x = Bands.stretches(1);
        for (int what = -1; what <= 4; what++) {
            c.due("before any " + what, x.given(0, what), BAD);
        }
        c.due("not", x.programme(12), NOT);
        c.due("a refused one is none", x.given(0, 0), BAD);
    }

    /** "3 the STEP to the next one (the last one: 0)". */
    private static void stepOfTheLastStretch(Check c) {
        for (int fifths = 0; fifths <= 6; fifths++) {
            ShadowBand x = apart(fifths);
            x.rule(0, 0);
            x.programme(12);
            c.due("the step, without its weight " + fifths, x.given(0, 3), fifths);
            c.due("the last one " + fifths, x.given(1, 3), 0);
        }
        ShadowBand y = Bands.stretches(1);
        Bands.piece(y, 11, 0, 10);
        y.programme(12);
        c.due("the only one", y.given(0, 3), 0);
    }

    private static void theOneFoundLast(Check c) {
        ShadowBand x = found(2);
        x.cue(1, 0);
        c.due("the film has one stretch now", x.stretches(), 1);
        c.due("the programme has two", x.given(1, 1), 10);
        Bands.piece(x, 0, 0, 20);
        c.due("one stretch", x.programme(12), 0);
        c.due("by the new piece", x.given(0, 0), 1);
        c.due("and no more", x.given(1, 0), BAD);
        x.shot(120, 0);
        x.cue(2, 1);
        c.due("a stretch more is not given", x.given(1, 0), BAD);
        x.block(1, 20, 3, 0);
        x.rule(0, 99);
        c.due("nor changes what was given", x.given(0, 1), 20);
    }

    /** "(One found ahead stays where it is refused ...)". */
    private static void theOneAheadStays(Check c) {
        ShadowBand x = found(2);
        c.due("bad", x.programme(11), BAD);
        stays(c, x);
        c.due("bad", x.programme(31), BAD);
        stays(c, x);
        x.shot(1, 5);
        x.cue(2, 1);
        c.due("no piece of the mood", x.programme(12), NOT);
        stays(c, x);
        for (int i = 3; i < 9; i++) {
            x.shot(1, 0);
            x.cue(i, 1);
        }
        c.due("nine", x.programme(12), BIG);
        stays(c, x);
        c.due("it can begin", x.begin(), 2);
    }

    private static void stays(Check c, ShadowBand x) {
        int[] due = {0, 10, 0, 0};
        for (int s = 0; s < 2; s++) {
            for (int what = 0; what <= 3; what++) {
                c.due("stays " + s + " " + what, x.given(s, what), due[what]);
            }
        }
        c.due("stays of two stretches", x.given(2, 0), BAD);
    }
}
