/** Promises 17 to 23: begin, go, seen, reel, now, played, fees. */
public final class NightTest {
    private static final int BAD = ShadowBand.BAD;
    private static final int NOT = ShadowBand.NOT;

    public static void main(String[] args) {
        Check c = new Check();
        beforeAny(c);
        oneStretch(c);
        vampAndLate(c);
        vampAheadOfTheLast(c);
        earlyExit(c);
        held(c);
        brokenReel(c);
        anew(c);
        waysAsTheyWere(c);
        goesOnByItsOwn(c);
        manyFees(c);
        c.end();
    }

    private static void beforeAny(Check c) {
        ShadowBand x = new ShadowBand();
        c.due("17 no programme", x.begin(), NOT);
        c.due("18 no night", x.go(1), NOT);
        c.due("18 bad ahead of not", x.go(0), BAD);
        c.due("18 601", x.go(601), BAD);
        c.due("19 no night", x.seen(), NOT);
        c.due("20 no night", x.reel(0), NOT);
        c.due("20 bad ahead of not", x.reel(2), BAD);
        c.due("20 -1", x.reel(-1), BAD);
        for (int what = -1; what < 10; what++) {
            c.due("21 before any night " + what, x.now(what), BAD);
        }
        c.due("22 no piece", x.played(0), BAD);
        c.due("23 nothing", x.fees(), 0);
        x.piece(1, 60060, 0, 9);
        c.due("22 never", x.played(0), 0);
        c.due("22 piece -1", x.played(-1), BAD);
        c.due("22 piece 1", x.played(1), BAD);
    }

    private static void nows(Check c, String when, ShadowBand x, int... due) {
        for (int what = 0; what < due.length; what++) {
            c.due("21 " + when + " now " + what, x.now(what), due[what]);
        }
    }

    /** 100 tenths; the way is block 1 (4 beats), block 0 (6 beats), a beat each ten tenths. */
    private static void oneStretch(Check c) {
        ShadowBand x = new ShadowBand();
        x.shot(120, 0);
        x.piece(1, 60060, 0, 9);
        x.block(0, 6, 1, 0);
        x.block(0, 4, 2, 1);
        c.due("15", x.programme(12), 0);
        c.due("17 one stretch", x.begin(), 1);
        nows(c, "at first", x, 0, 1, 0, 0, 0, 0, 0, 0, 0);
        c.due("21 what 9", x.now(9), BAD);
        c.due("21 what -1", x.now(-1), BAD);
        c.due("22 counted as it begins", x.played(0), 1);
        c.due("23 fee as it begins", x.fees(), 9);
        c.due("19 no more cues", x.seen(), NOT);
        c.due("18 39", x.go(39), 39);
        nows(c, "at 39", x, 0, 1, 0, 0, 0, 39, 0, 0, 3);
        c.due("18 40", x.go(1), 40);
        nows(c, "at 40", x, 0, 0, 0, 0, 0, 40, 0, 0, 4);
        c.due("18 99", x.go(59), 99);
        c.due("21 not ended", x.now(6), 0);
        c.due("18 it stands still behind the end", x.go(600), 100);
        nows(c, "at the end", x, 0, 0, 0, 0, 0, 100, 1, 0, 10);
        c.due("18 ended", x.go(1), NOT);
        c.due("18 ended, bad", x.go(-1), BAD);
        c.due("19 ended", x.seen(), NOT);
        c.due("20 the reel after the end", x.reel(1), 0);
        c.due("20 the reel after the end", x.reel(1), 1);
        c.due("18 the clock stands", x.now(5), 100);
    }

    /** Three stretches of 50 tenths, one theme of 5 beats: block 0 (3 beats), block 1 (2, exit). */
    private static ShadowBand three() {
        ShadowBand x = new ShadowBand();
        for (int s = 0; s < 3; s++) {
            x.shot(60, 0);
            x.cue(s, 1);
        }
        x.piece(1, 60060, 1, 7);
        x.block(0, 3, 2, 2);
        x.block(0, 2, 1, 0);
        x.programme(12);
        return x;
    }

    private static void vampAndLate(Check c) {
        ShadowBand x = three();
        c.due("17 three", x.begin(), 3);
        x.go(50);
        nows(c, "a vamp at the end", x, 0, 1, 0, 1, 0, 50, 0, 0, 5);
        x.go(19);
        nows(c, "in the vamp", x, 0, 1, 0, 1, 0, 69, 0, 0, 6);
        c.due("19 stretch 1", x.seen(), 1);
        x.go(1);
        nows(c, "taken", x, 1, 0, 0, 1, 1, 70, 0, 1, 0);
        c.due("19 at the very beginning", x.seen(), 2);
        c.due("19 all are seen", x.seen(), NOT);
        x.go(50);
        nows(c, "taken on time", x, 2, 0, 0, 1, 51, 120, 0, 2, 0);
        c.due("18 the end", x.go(600), 170);
        nows(c, "at the end", x, 2, 1, 0, 1, 51, 170, 1, 2, 5);
        c.due("22 three times", x.played(0), 3);
        c.due("23 three fees", x.fees(), 21);
        c.due("29 three", x.count(5), 3);
    }

    private static void vampAheadOfTheLast(Check c) {
        ShadowBand x = three();
        x.begin();
        x.seen();
        x.go(50);
        c.due("21 the stretch ahead of the last", x.now(0), 1);
        c.due("18 does not end unseen", x.go(600), 650);
        nows(c, "vamps", x, 1, 1, 0, 28, 50, 650, 0, 1, 60);
        x.seen();
        c.due("18 the end", x.go(600), 710);
        nows(c, "at the end", x, 2, 1, 0, 28, 60, 710, 1, 2, 5);
    }

    /** A cue that was seen is taken behind the first block that is an exit, not the way's last. */
    private static void earlyExit(Check c) {
        ShadowBand x = new ShadowBand();
        x.shot(120, 0);
        x.shot(120, 1);
        x.cue(1, 1);
        x.piece(1, 60060, 0, 5);
        x.block(0, 2, 2, 2);
        x.block(0, 3, 1, 4);
        x.block(0, 5, 1, 0);
        x.piece(2, 60060, 0, 11);
        x.block(1, 10, 3, 0);
        c.due("15", x.programme(12), 0);
        c.due("9 the whole way", x.way(0, 10), 3);
        x.begin();
        x.go(50);
        nows(c, "not seen: on", x, 0, 2, 0, 0, 0, 50, 0, 0, 5);
        x.begin();
        c.due("19 at 0", x.seen(), 1);
        x.go(20);
        nows(c, "block 0 is no exit", x, 0, 1, 0, 0, 0, 20, 0, 1, 2);
        x.go(30);
        nows(c, "block 1 is", x, 1, 0, 1, 0, 50, 50, 0, 1, 0);
        c.due("18", x.go(600), 150);
        c.due("22 piece 0", x.played(0), 2);
        c.due("22 piece 1", x.played(1), 1);
        c.due("23", x.fees(), 21);
    }

    /** Tenths of a stretch are held between what the beats last: 57 up to 60, and 300 down. */
    private static void held(Check c) {
        ShadowBand x = new ShadowBand();
        x.shot(69, 0);
        x.shot(360, 0);
        x.cue(1, 1);
        x.piece(1, 60120, 1, 0);
        x.block(0, 12, 3, 0);
        c.due("15", x.programme(12), 3 + 180);
        x.begin();
        x.seen();
        x.go(59);
        c.due("21 not yet", x.now(0), 0);
        c.due("21 59 * 12 / 60", x.now(8), 11);
        x.go(1);
        c.due("21 at 60", x.now(0), 1);
        c.due("18 120 more", x.go(600), 180);
        ShadowBand y = new ShadowBand();
        y.shot(108, 0);
        y.piece(1, 60120, 0, 0);
        y.block(0, 12, 3, 0);
        c.due("15 between", y.programme(12), 0);
        y.begin();
        y.go(89);
        c.due("21 89 * 12 / 90", y.now(8), 11);
        c.due("18 just as long as the stretch", y.go(600), 90);
    }

    private static void brokenReel(Check c) {
        ShadowBand x = three();
        x.begin();
        c.due("20 it was whole", x.reel(1), 0);
        c.due("20 it was broken", x.reel(1), 1);
        c.due("20 bad", x.reel(2), BAD);
        c.due("19 broken", x.seen(), NOT);
        c.due("18 all else goes on", x.go(60), 60);
        c.due("21 with vamps", x.now(3), 1);
        c.due("20 mended", x.reel(0), 1);
        c.due("19 seen", x.seen(), 1);
        x.reel(1);
        x.go(10);
        c.due("21 a cue seen ahead is taken", x.now(0), 1);
        c.due("21 late", x.now(4), 10);
        c.due("17 a new night", x.begin(), 3);
        c.due("20 its reel is whole", x.reel(0), 0);
        c.due("19 and cues are seen", x.seen(), 1);
    }

    private static void anew(Check c) {
        ShadowBand x = three();
        x.begin();
        x.go(60);
        x.seen();
        x.go(30);
        c.due("17 again", x.begin(), 3);
        nows(c, "anew", x, 0, 0, 0, 0, 0, 0, 0, 0, 0);
        c.due("22 goes on", x.played(0), 3);
        c.due("23 goes on", x.fees(), 21);
        c.due("29 goes on", x.count(5), 3);
        c.due("19 from the first cue on", x.seen(), 1);
    }

    private static void waysAsTheyWere(Check c) {
        ShadowBand x = three();
        x.block(0, 5, 3, 0);
        c.due("9 a shorter way now", x.way(0, 5), 1);
        x.begin();
        x.go(30);
        c.due("21 the way as it was", x.now(1), 1);
        x.programme(12);
        x.begin();
        c.due("21 the way as it is", x.now(1), 2);
    }

    private static void goesOnByItsOwn(Check c) {
        ShadowBand x = three();
        x.begin();
        x.cue(1, 0);
        x.cue(2, 0);
        c.due("15 another one", x.programme(12), 100);
        c.due("16 of one stretch", x.given(1, 0), BAD);
        c.due("19 by the one that began", x.seen(), 1);
        c.due("19 by the one that began", x.seen(), 2);
        c.due("18 by the one that began", x.go(600), 150);
        c.due("17 by the new one", x.begin(), 1);
        c.due("18 by the new one", x.go(600), 50);
    }

    private static void manyFees(Check c) {
        ShadowBand x = new ShadowBand();
        x.shot(1, 0);
        x.piece(1, 30030, 0, 999);
        x.block(0, 1, 3, 0);
        x.programme(30);
        for (int i = 1; i <= 500; i++) {
            x.begin();
        }
        c.due("22 500 times", x.played(0), 500);
        c.due("23 500 fees", x.fees(), 499500);
    }
}
