/** The film's edges (terms, promises 1 to 6), sentence by sentence. */
public final class FilmEdgesTest {
    private static final int BAD = ShadowBand.BAD;
    private static final int NOT = ShadowBand.NOT;
    private static final int FULL = ShadowBand.FULL;

    public static void main(String[] args) {
        Check c = new Check();
        nothingAtFirst(c);
        memoryIsItsOwn(c);
        rangesOfShot(c);
        sixtyShots(c);
        shotZeroIsACue(c);
        cuesOfEachShot(c);
        noCueAheadOfItsShot(c);
        howManyStretches(c);
        rangesOfStretch(c);
        oneShotOrSixty(c);
        moodOfTheFirstShot(c);
        rangesOfTenths(c);
        theRestAway(c);
        framesTogether(c);
        c.end();
    }

    /** "No film, no pieces, no programme, no effects." */
    private static void nothingAtFirst(Check c) {
        ShadowBand x = new ShadowBand();
        c.due("no shot", x.cue(0, 1), BAD);
        c.due("no stretch", x.stretch(0, 0), BAD);
        c.due("no stretch to time", x.tenths(0, 12), BAD);
        c.due("no frames", x.tenths(-1, 12), 0);
        c.due("no piece for a block", x.block(0, 1, 3, 0), BAD);
        c.due("no piece with a way", x.way(0, 1), BAD);
        c.due("no way to go along", x.along(0, 1, 0), BAD);
        c.due("no piece to miss", x.misfit(0, 1, 0), BAD);
        c.due("no best", x.best(0, 0), BAD);
        c.due("nothing was played", x.played(0), BAD);
        c.due("no cue can be seen", x.seen(), NOT);
        c.due("no night goes on", x.go(1), NOT);
        c.due("no reel", x.reel(1), NOT);
        c.due("all hands free at the last tenth", x.free(99999), 2);
        c.due("two hands", x.hands(2), 2);
        c.due("the first shot is 0", x.shot(1, 0), 0);
        c.due("the first piece is 0", x.piece(1, 30030, 0, 0), 0);
        c.due("the first block is 0", x.block(0, 1, 3, 0), 0);
        c.due("the first effect is 0", x.effect(0, 1, 1), 0);
    }

    /** "All memory is the class's own": what one object is told, another one does not know. */
    private static void memoryIsItsOwn(Check c) {
        ShadowBand x = Bands.stretches(2);
        Bands.piece(x, 0, 1, 10);
        x.rule(0, 50);
        x.rule(1, 3);
        x.effect(0, 1, 4);
        x.hands(0);
        x.programme(12);
        x.begin();
        x.go(10);
        ShadowBand y = new ShadowBand();
        for (int what = 0; what <= 5; what++) {
            c.due("another object counts nothing of " + what, y.count(what), 0);
        }
        c.due("nor weighs so", y.rule(0, 1), 1);
        c.due("nor has its most", y.rule(1, 6), 6);
        c.due("nor its hands", y.hands(2), 2);
        c.due("nor its programme", y.begin(), NOT);
        c.due("nor its night", y.now(5), BAD);
        y.shot(7, 5);
        y.hands(4);
        c.due("and the first stays as it is", x.count(1), 240);
        c.due("with its hands", x.hands(0), 0);
        c.due("and its clock", x.now(5), 10);
    }

    /** "FRAMES (1 .. 2000) and a MOOD (0 .. 5)." */
    private static void rangesOfShot(Check c) {
        c.range("frames", 1, 2000, BAD, v -> new ShadowBand().shot(v, 0));
        c.range("mood", 0, 5, BAD, v -> new ShadowBand().shot(1, v));
        ShadowBand x = new ShadowBand();
        x.shot(1, 0);
        x.shot(2000, 5);
        c.due("the least and the most frames", x.count(1), 2001);
        x.cue(1, 1);
        c.due("the least frames", x.stretch(0, 2), 1);
        c.due("the most frames", x.stretch(1, 2), 2000);
        c.due("the least mood", x.stretch(0, 3), 0);
        c.due("the greatest mood", x.stretch(1, 3), 5);
    }

    /** "SHOTS 0 .. 59"; FULL. */
    private static void sixtyShots(Check c) {
        ShadowBand x = new ShadowBand();
        for (int i = 0; i < 59; i++) {
            x.shot(1, 0);
        }
        c.due("the last shot", x.shot(2, 1), 59);
        c.due("no shot 60", x.shot(3, 2), FULL);
        c.due("bad is named ahead of full: frames", x.shot(2001, 2), BAD);
        c.due("bad is named ahead of full: mood", x.shot(3, 6), BAD);
        c.due("sixty shots", x.count(0), 60);
        c.due("their frames", x.count(1), 61);
        x.cue(59, 1);
        c.due("the last shot has its mood", x.stretch(1, 3), 1);
        c.due("and its frames", x.stretch(1, 2), 2);
    }

    /** "CUES: SHOT 0, and ..."; "A SHOT (not 0)". */
    private static void shotZeroIsACue(Check c) {
        ShadowBand x = new ShadowBand();
        x.shot(1, 0);
        c.due("one shot, one stretch", x.stretches(), 1);
        c.due("it can't be told not to be one", x.cue(0, 0), BAD);
        c.due("nor to be one", x.cue(0, 1), BAD);
        c.due("it stays one", x.stretches(), 1);
        c.due("from shot 0 on", x.stretch(0, 0), 0);
    }

    /** "A SHOT (not 0) is a CUE (1) or not (0): what it was." */
    private static void cuesOfEachShot(Check c) {
        c.range("cue of shots 1 to 3", 1, 3, BAD, v -> fourShots().cue(v, 1));
        c.range("cue is", 0, 1, BAD, v -> fourShots().cue(3, v));
        c.range("cue of sixty shots", 1, 59, BAD, v -> sixty().cue(v, 1));
        for (int shot = 1; shot <= 3; shot++) {
            ShadowBand x = fourShots();
            c.due("a new shot is none: " + shot, x.cue(shot, 0), 0);
            c.due("still none: " + shot, x.cue(shot, 1), 0);
            c.due("now one: " + shot, x.cue(shot, 1), 1);
            c.due("still one: " + shot, x.cue(shot, 0), 1);
            c.due("none again: " + shot, x.cue(shot, 0), 0);
            c.due("one stretch as at first", x.stretches(), 1);
        }
    }

    private static ShadowBand fourShots() {
        ShadowBand x = new ShadowBand();
        for (int i = 0; i < 4; i++) {
            x.shot(10, i);
        }
        return x;
    }

    private static ShadowBand sixty() {
        ShadowBand x = new ShadowBand();
        for (int i = 0; i < 60; i++) {
            x.shot(2000, 5 - i % 6);
        }
        return x;
    }

    private static void noCueAheadOfItsShot(Check c) {
        ShadowBand x = new ShadowBand();
        x.shot(1, 0);
        c.due("no shot 1 yet", x.cue(1, 1), BAD);
        x.shot(1, 0);
        c.due("the refused call was forgotten", x.stretches(), 1);
        c.due("it was none", x.cue(1, 1), 0);
        x.shot(1, 0);
        c.due("a shot more is no cue", x.stretches(), 2);
    }

    /** "How many STRETCHES there are": none without shots, sixty at most. */
    private static void howManyStretches(Check c) {
        ShadowBand x = new ShadowBand();
        c.due("no shots, no stretches", x.stretches(), 0);
        for (int i = 0; i < 60; i++) {
            x.shot(1, 0);
            x.cue(i, 1);
            c.due("one more", x.stretches(), i + 1);
        }
        x.cue(59, 0);
        c.due("the last one away", x.stretches(), 59);
        x.cue(1, 0);
        c.due("the first one that can go away", x.stretches(), 58);
    }

    /** "Of a STRETCH: 0 its first SHOT, 1 its last one, 2 FRAMES, 3 MOOD. BAD." */
    private static void rangesOfStretch(Check c) {
        c.range("stretch without cues", 0, 0, BAD, v -> fourShots().stretch(v, 0));
        c.range("stretch of three", 0, 2, BAD, v -> Bands.stretches(3).stretch(v, 2));
        c.range("stretch of sixty", 0, 59, BAD, v -> Bands.stretches(60).stretch(v, 1));
        c.range("what of a stretch", 0, 3, BAD, v -> fourShots().stretch(0, v));
    }

    /** "from a CUE up to the next one (the last one up to the end)". */
    private static void oneShotOrSixty(Check c) {
        ShadowBand x = sixty();
        c.due("one stretch from the first", x.stretch(0, 0), 0);
        c.due("to the last", x.stretch(0, 1), 59);
        c.due("all frames", x.stretch(0, 2), 120000);
        x.cue(59, 1);
        c.due("all but the last", x.stretch(0, 1), 58);
        c.due("their frames", x.stretch(0, 2), 118000);
        c.due("the last alone: first", x.stretch(1, 0), 59);
        c.due("the last alone: last", x.stretch(1, 1), 59);
        c.due("the last alone: frames", x.stretch(1, 2), 2000);
        x.cue(1, 1);
        c.due("shot 0 alone", x.stretch(0, 1), 0);
        c.due("numbers go up behind a new cue", x.stretch(2, 0), 59);
        x.cue(59, 0);
        c.due("up to the end again", x.stretch(1, 1), 59);
    }

    /** "Its MOOD is that of its first SHOT." */
    private static void moodOfTheFirstShot(Check c) {
        ShadowBand x = fourShots();
        c.due("not of a later one", x.stretch(0, 3), 0);
        x.cue(2, 1);
        c.due("of the cue's shot", x.stretch(1, 3), 2);
        x.cue(2, 0);
        x.cue(3, 1);
        c.due("of the last shot alone", x.stretch(1, 3), 3);
    }

    /** "SPEED v (12 .. 30 ...)"; "s -1: of all FRAMES together"; BAD. */
    private static void rangesOfTenths(Check c) {
        c.range("speed of a stretch", 12, 30, BAD, v -> fourShots().tenths(0, v));
        c.range("speed of all", 12, 30, BAD, v -> fourShots().tenths(-1, v));
        c.range("speed without a film", 12, 30, BAD, v -> new ShadowBand().tenths(-1, v));
        c.range("tenths of stretches", -1, 2, BAD, v -> Bands.stretches(3).tenths(v, 12));
        c.range("tenths without a film", -1, -1, BAD, v -> new ShadowBand().tenths(v, 12));
    }

    /** "FRAMES times 10 / v TENTHS (of a second; the rest away ...)". */
    private static void theRestAway(Check c) {
        int[][] due = {{1, 30, 0}, {2, 30, 0}, {3, 30, 1}, {1, 12, 0}, {2, 12, 1}, {5, 12, 4},
            {6, 12, 5}, {2000, 12, 1666}, {2000, 30, 666}, {2000, 29, 689}, {2000, 13, 1538}};
        for (int[] d : due) {
            ShadowBand x = Bands.film(d[0]);
            c.due(d[0] + " frames at " + d[1], x.tenths(0, d[1]), d[2]);
            c.due(d[0] + " frames in all at " + d[1], x.tenths(-1, d[1]), d[2]);
        }
        c.due("the longest film, slow", sixty().tenths(-1, 12), 100000);
        c.due("the longest film, fast", sixty().tenths(-1, 30), 40000);
        c.due("the longest stretch", sixty().tenths(0, 12), 100000);
    }

    /** "of a STRETCH by all its FRAMES together"; "of all FRAMES together". */
    private static void framesTogether(Check c) {
        ShadowBand x = new ShadowBand();
        for (int i = 0; i < 60; i++) {
            x.shot(1, 0);
        }
        c.due("sixty shots of one frame", x.tenths(0, 30), 20);
        for (int i = 1; i < 60; i++) {
            x.cue(i, 1);
        }
        c.due("each of one frame", x.tenths(59, 30), 0);
        c.due("all together, not stretch by stretch", x.tenths(-1, 30), 20);
    }
}
