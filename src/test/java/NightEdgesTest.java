/** The night's edges (terms 3, promises 17 to 23), sentence by sentence. */
public final class NightEdgesTest {
    private static final int BAD = ShadowBand.BAD;
    private static final int NOT = ShadowBand.NOT;
    private static final int BIG = ShadowBand.BIG;

    public static void main(String[] args) {
        Check c = new Check();
        noNightYet(c);
        oneToEightStretches(c);
        theFirstTenth(c);
        rangesOfGo(c);
        tenthByTenth(c);
        aBlockEndsOnItsTenth(c);
        heldAtBothEnds(c);
        noTenthsAtAll(c);
        sixteenBlocks(c);
        seenJustInTime(c);
        seenJustTooLate(c);
        exitsInTheMiddle(c);
        noExitInTheLastStretch(c);
        vampsOfTheLastBlock(c);
        severalSeenAhead(c);
        allCuesSeen(c);
        theEndOnTheLastTenth(c);
        behindTheEnd(c);
        rangesOfReel(c);
        theReelIsBroken(c);
        rangesOfNow(c);
        rangesOfPlayed(c);
        feesFromNoneToMost(c);
        countsGoOn(c);
        goesOnByItsOwnProgramme(c);
        waysAsTheyWereThen(c);
        c.end();
    }

    /** So many stretches of 100 tenths under a theme: block 0 (4 beats), block 1 (6 beats). */
    private static ShadowBand night(int stretches) {
        ShadowBand x = Bands.stretches(stretches);
        x.piece(1, 60060, 1, 3);
        x.block(0, 4, 2, 2);
        x.block(0, 6, 1, 0);
        x.programme(12);
        x.begin();
        return x;
    }

    private static void nows(Check c, String when, ShadowBand x, int... due) {
        for (int what = 0; what < due.length; what++) {
            c.due(when + ": now " + what, x.now(what), due[what]);
        }
    }

    /** "NOT: there is none"; "NOT: there is no NIGHT"; "BAD: before any NIGHT". */
    private static void noNightYet(Check c) {
        ShadowBand x = new ShadowBand();
        c.due("no programme", x.begin(), NOT);
        ShadowBand y = Bands.stretches(1);
        c.due("none was found", y.programme(12), NOT);
        c.due("so none begins", y.begin(), NOT);
        Bands.piece(y, 0, 0, 10);
        c.due("still none was found", y.begin(), NOT);
        c.due("one is found", y.programme(12), 0);
        c.due("no night to go on", y.go(1), NOT);
        c.due("no night to go on for long", y.go(600), NOT);
        c.due("no cue", y.seen(), NOT);
        c.due("no reel to break", y.reel(1), NOT);
        c.due("no reel to mend", y.reel(0), NOT);
        for (int what = -1; what <= 9; what++) {
            c.due("no night to ask of " + what, y.now(what), BAD);
        }
        c.due("nothing was played", y.count(5), 0);
        c.due("now it begins", y.begin(), 1);
        c.due("with a reel that is whole", y.reel(0), 0);
    }

    private static void oneToEightStretches(Check c) {
        for (int n = 1; n <= 8; n++) {
            c.due(n + " stretches begin", night(n).begin(), n);
        }
    }

    /** "THE CLOCK counts TENTHS, 0 at first. STRETCH 0's PIECE begins at 0." */
    private static void theFirstTenth(Check c) {
        ShadowBand x = night(2);
        nows(c, "at first", x, 0, 0, 0, 0, 0, 0, 0, 0, 0);
        c.due("played as it begins", x.played(0), 1);
        c.due("its fee, too", x.fees(), 3);
        c.due("the first tenth", x.go(1), 1);
        nows(c, "after one tenth", x, 0, 0, 0, 0, 0, 1, 0, 0, 0);
    }

    /** "n (1 .. 600) TENTHS go by". */
    private static void rangesOfGo(Check c) {
        c.range("tenths to go", 1, 600, BAD, v -> night(2).go(v));
        c.range("tenths to go without a night", 1, 600, BAD, v -> new ShadowBand().go(v));
        c.range("tenths to go behind the end", 1, 600, BAD, v -> ended().go(v));
        c.due("one", night(2).go(1), 1);
        c.due("six hundred", night(2).go(600), 600);
    }

    /** However many go by in one call, each is one tenth. */
    private static void tenthByTenth(Check c) {
        ShadowBand x = night(3);
        ShadowBand y = night(3);
        for (int i = 1; i <= 45; i++) {
            x.seen();
            y.seen();
            for (int n = 0; n < 7; n++) {
                x.go(1);
            }
            y.go(7);
            if (i % 9 == 0) {
                for (int what = 0; what <= 8; what++) {
                    c.due("at " + 7 * i + " now " + what, x.now(what), y.now(what));
                }
            }
        }
    }

    /** "each end when as many BEATS are done as all up to it have together"; "(the rest away)". */
    private static void aBlockEndsOnItsTenth(Check c) {
        ShadowBand x = Bands.stretches(1);
        x.piece(1, 30240, 0, 0);
        x.block(0, 3, 2, 2);
        x.block(0, 4, 1, 0);
        c.due("seven beats in 100 tenths", x.programme(12), 0);
        x.begin();
        x.go(14);
        c.due("14 * 7 is 98", x.now(8), 0);
        x.go(1);
        c.due("15 * 7 is 105", x.now(8), 1);
        x.go(27);
        nows(c, "42 * 7 is 294", x, 0, 0, 0, 0, 0, 42, 0, 0, 2);
        x.go(1);
        nows(c, "43 * 7 is 301", x, 0, 1, 0, 0, 0, 43, 0, 0, 3);
        x.go(56);
        nows(c, "99 * 7 is 693", x, 0, 1, 0, 0, 0, 99, 0, 0, 6);
        x.go(1);
        nows(c, "100 * 7 is 700", x, 0, 1, 0, 0, 0, 100, 1, 0, 7);
    }

    /** "those of the STRETCH, held between both ends that b BEATS last". */
    private static void heldAtBothEnds(Check c) {
        // Frames at 12 a second: the tenths, then how long 12 beats of 60 to 120 last for them.
        int[][] due = {{1, 60}, {70, 60}, {72, 60}, {73, 60}, {74, 61}, {108, 90}, {142, 118},
            {143, 119}, {144, 120}, {145, 120}, {146, 120}, {2000, 120}};
        for (int[] d : due) {
            ShadowBand x = Bands.film(d[0]);
            x.piece(1, 60120, 0, 0);
            x.block(0, 12, 3, 0);
            x.programme(12);
            x.begin();
            x.go(d[1] - 1);
            c.due(d[0] + " frames, the tenth ahead of the end", x.now(6), 0);
            c.due(d[0] + " frames, beats by then", x.now(8), 11);
            c.due(d[0] + " frames end", x.go(600), d[1]);
        }
    }

    /** One frame at 30 a second lasts no tenth; the shortest beat lasts two. */
    private static void noTenthsAtAll(Check c) {
        ShadowBand x = Bands.film(1, 1);
        x.piece(1, 240240, 1, 0);
        x.block(0, 1, 3, 0);
        c.due("misses by two each", x.programme(30), 4);
        x.begin();
        c.due("seen at 0", x.seen(), 1);
        x.go(1);
        nows(c, "at 1", x, 0, 0, 0, 0, 0, 1, 0, 1, 0);
        x.go(1);
        nows(c, "at 2", x, 1, 0, 0, 0, 2, 2, 0, 1, 0);
        x.go(1);
        c.due("at 3", x.now(6), 0);
        c.due("at 4", x.go(600), 4);
    }

    /** A way of sixteen blocks and 400 beats, each block in its turn. */
    private static void sixteenBlocks(Check c) {
        ShadowBand x = Bands.film(2000);
        x.piece(1, 240240, 0, 0);
        for (int b = 0; b < 8; b++) {
            x.block(0, 25, b == 0 ? 2 : b == 7 ? 1 : 0, 1 << (b + 1) % 8);
        }
        x.programme(12);
        c.due("400 beats", x.given(0, 1), 400);
        x.begin();
        for (int i = 0; i < 16; i++) {
            // 25 beats of 240 a minute last 62.5 tenths.
            int from = (125 * i + 1) / 2;
            if (i > 0) {
                x.go(from - 1 - x.now(5));
                c.due("block " + i + " not yet", x.now(1), (i - 1) % 8);
                x.go(1);
            }
            c.due("block " + i, x.now(1), i % 8);
            c.due("its beats", x.now(8), from * 400 / 1000);
        }
        c.due("the end", x.go(600), 1000);
        c.due("all beats", x.now(8), 400);
    }

    /** "if the next STRETCH's CUE is SEEN and the BLOCK is an EXIT: ... begins at this TENTH". */
    private static void seenJustInTime(Check c) {
        ShadowBand x = night(2);
        x.go(99);
        nows(c, "the tenth ahead", x, 0, 1, 0, 0, 0, 99, 0, 0, 9);
        c.due("seen", x.seen(), 1);
        c.due("a cue that is seen is not yet taken", x.now(0), 0);
        c.due("but counted", x.now(7), 1);
        x.go(1);
        nows(c, "taken", x, 1, 0, 0, 0, 1, 100, 0, 1, 0);
        c.due("played again", x.played(0), 2);
        x.go(99);
        c.due("a hundred tenths from there on", x.now(6), 0);
        c.due("to the end", x.go(1), 200);
        nows(c, "the end", x, 1, 1, 0, 0, 1, 200, 1, 1, 10);
    }

    /** "else (not SEEN): VAMP: the same BLOCK comes once more". */
    private static void seenJustTooLate(Check c) {
        ShadowBand x = night(2);
        x.go(100);
        nows(c, "the vamp has begun", x, 0, 1, 0, 1, 0, 100, 0, 0, 10);
        c.due("seen on the same tenth", x.seen(), 1);
        x.go(59);
        nows(c, "the vamp is played to its end", x, 0, 1, 0, 1, 0, 159, 0, 1, 15);
        x.go(1);
        nows(c, "then it is taken", x, 1, 0, 0, 1, 60, 160, 0, 1, 0);
    }

    /** Block 0 is no exit, block 1 is one, block 2 is the last of the way. */
    private static ShadowBand exitInTheMiddle(int stretches) {
        ShadowBand x = Bands.stretches(stretches);
        x.piece(1, 60060, 1, 0);
        x.block(0, 2, 2, 2);
        x.block(0, 3, 1, 4);
        x.block(0, 5, 1, 0);
        x.programme(12);
        x.begin();
        return x;
    }

    /** "else, if it is not the last BLOCK of the WAY: the next BLOCK". */
    private static void exitsInTheMiddle(Check c) {
        ShadowBand x = exitInTheMiddle(2);
        x.go(50);
        c.due("an exit, but not seen: on", x.now(1), 2);
        c.due("no vamp", x.now(3), 0);
        ShadowBand y = exitInTheMiddle(2);
        y.seen();
        y.go(20);
        c.due("seen, but no exit: on", y.now(1), 1);
        y.go(29);
        c.due("the exit is played to its end", y.now(0), 0);
        y.go(1);
        nows(c, "seen and an exit", y, 1, 0, 0, 0, 50, 50, 0, 1, 0);
        ShadowBand z = exitInTheMiddle(2);
        z.go(50);
        z.seen();
        z.go(49);
        c.due("seen behind the exit: to the next one", z.now(0), 0);
        z.go(1);
        nows(c, "the next one", z, 1, 0, 0, 0, 50, 100, 0, 1, 0);
    }

    /** "else, if this is the last STRETCH: THE NIGHT has ended": no cue, no vamp there. */
    private static void noExitInTheLastStretch(Check c) {
        ShadowBand x = exitInTheMiddle(2);
        x.seen();
        x.go(50);
        c.due("no cue is left", x.seen(), NOT);
        x.go(50);
        nows(c, "the last stretch goes on behind an exit", x, 1, 2, 0, 0, 50, 100, 0, 1, 5);
        c.due("to the end of its way", x.go(600), 150);
        nows(c, "the end", x, 1, 2, 0, 0, 50, 150, 1, 1, 10);
        ShadowBand y = exitInTheMiddle(1);
        c.due("one stretch alone", y.go(600), 100);
        c.due("without a vamp", y.now(3), 0);
    }

    /** "(it ends with as many BEATS more; VAMPS are one more)". */
    private static void vampsOfTheLastBlock(Check c) {
        ShadowBand x = exitInTheMiddle(2);
        for (int vamps = 0; vamps < 9; vamps++) {
            x.go(vamps == 0 ? 99 : 49);
            nows(c, "ahead of vamp " + (vamps + 1), x, 0, 2, 0, vamps, 0, 99 + 50 * vamps);
            x.go(1);
            nows(c, "vamp " + (vamps + 1), x, 0, 2, 0, vamps + 1, 0, 100 + 50 * vamps);
            c.due("beats go on", x.now(8), 10 + 5 * vamps);
        }
        c.due("the piece was played once", x.played(0), 1);
        x.seen();
        x.go(50);
        nows(c, "taken", x, 1, 0, 0, 9, 50, 550, 0, 1, 0);
    }

    /** "(several may be SEEN ahead of being taken)"; LATE is since each one was SEEN. */
    private static void severalSeenAhead(Check c) {
        ShadowBand x = night(4);
        x.go(10);
        c.due("first", x.seen(), 1);
        x.go(10);
        c.due("second", x.seen(), 2);
        c.due("two are seen", x.now(7), 2);
        c.due("the first stretch is played", x.now(0), 0);
        x.go(80);
        nows(c, "the first is taken", x, 1, 0, 0, 0, 90, 100, 0, 2, 0);
        x.go(99);
        c.due("the second is not taken at once", x.now(0), 1);
        x.go(1);
        nows(c, "the second is taken", x, 2, 0, 0, 0, 270, 200, 0, 2, 0);
        x.go(100);
        nows(c, "the third is not seen", x, 2, 1, 0, 1, 270, 300, 0, 2, 10);
    }

    /** "which STRETCH begins by it. NOT: ... all are SEEN". */
    private static void allCuesSeen(Check c) {
        c.due("one stretch has no cue to come", night(1).seen(), NOT);
        for (int n = 2; n <= 8; n++) {
            ShadowBand x = night(n);
            for (int s = 1; s < n; s++) {
                c.due("cue " + s + " of " + n, x.seen(), s);
            }
            c.due("all of " + n, x.seen(), NOT);
            c.due("so many are seen", x.now(7), n - 1);
            c.due("all at 0: ends", x.go(600), Math.min(600, 100 * n));
            c.due("late by each", x.now(4), n <= 6 ? 50 * n * (n - 1) : 2100);
        }
    }

    private static ShadowBand ended() {
        ShadowBand x = night(1);
        x.go(100);
        return x;
    }

    private static void theEndOnTheLastTenth(Check c) {
        ShadowBand x = night(1);
        c.due("just to the end", x.go(100), 100);
        c.due("has ended", x.now(6), 1);
        c.due("no more", x.go(1), NOT);
        ShadowBand y = night(1);
        c.due("one short of it", y.go(99), 99);
        c.due("has not ended", y.now(6), 0);
        c.due("six hundred more are one", y.go(600), 100);
        ShadowBand z = night(1);
        c.due("one too many", z.go(101), 100);
    }

    /** "NOT: ... it has ended. (It stands still behind the end.)" */
    private static void behindTheEnd(Check c) {
        ShadowBand x = ended();
        for (int i = 0; i < 3; i++) {
            c.due("go", x.go(600), NOT);
            c.due("seen", x.seen(), NOT);
            nows(c, "stands still", x, 0, 1, 0, 0, 0, 100, 1, 0, 10);
        }
        c.due("bad is named ahead of not", x.go(601), BAD);
        c.due("the reel is whole", x.reel(1), 0);
        c.due("and broken", x.reel(1), 1);
        c.due("played once", x.played(0), 1);
        c.due("another night", x.begin(), 1);
        nows(c, "at first again", x, 0, 0, 0, 0, 0, 0, 0, 0, 0);
        c.due("it goes", x.go(1), 1);
        c.due("its reel is whole, though the other one broke", x.reel(0), 0);
    }

    /** "The reel is BROKEN (1), MENDED (0): what it was. BAD; NOT: no NIGHT." */
    private static void rangesOfReel(Check c) {
        c.range("reel", 0, 1, BAD, v -> night(2).reel(v));
        c.range("reel without a night", 0, 1, BAD, v -> new ShadowBand().reel(v));
        ShadowBand x = night(2);
        c.due("whole at first", x.reel(0), 0);
        c.due("still whole", x.reel(1), 0);
        c.due("broken", x.reel(1), 1);
        c.due("refused", x.reel(2), BAD);
        c.due("still broken", x.reel(0), 1);
        c.due("mended", x.reel(0), 0);
    }

    /** "While the reel is BROKEN none can be; all else goes on." */
    private static void theReelIsBroken(Check c) {
        ShadowBand x = night(3);
        x.go(10);
        x.seen();
        x.reel(1);
        c.due("broken: not seen", x.seen(), NOT);
        c.due("nor counted", x.now(7), 1);
        c.due("the clock goes on", x.go(90), 100);
        nows(c, "a cue seen ahead is taken", x, 1, 0, 0, 0, 90, 100, 0, 1, 0);
        x.go(100);
        nows(c, "a vamp", x, 1, 1, 0, 1, 90, 200, 0, 1, 10);
        c.due("still not seen", x.seen(), NOT);
        x.reel(0);
        c.due("mended: seen", x.seen(), 2);
        x.reel(1);
        x.go(60);
        c.due("taken while it is broken", x.now(0), 2);
        c.due("late since it was seen", x.now(4), 150);
        c.due("the night ends while it is broken", x.go(600), 360);
        c.due("ended", x.now(6), 1);
    }

    /** "Of THE NIGHT: 0 ... 8". */
    private static void rangesOfNow(Check c) {
        c.range("what of now", 0, 8, BAD, v -> night(2).now(v));
        c.range("what of now behind the end", 0, 8, BAD, v -> ended().now(v));
        ShadowBand x = new ShadowBand();
        for (int what = -1; what <= 9; what++) {
            c.due("before any night " + what, x.now(what), BAD);
        }
    }

    private static ShadowBand pieces(int n) {
        ShadowBand x = Bands.stretches(1);
        for (int p = 0; p < n; p++) {
            Bands.piece(x, 0, 0, 10);
        }
        return x;
    }

    /** "How many times a PIECE was PLAYED, in all NIGHTS. BAD." */
    private static void rangesOfPlayed(Check c) {
        c.due("no pieces", new ShadowBand().played(0), BAD);
        c.range("one piece was played", 0, 0, BAD, v -> pieces(1).played(v));
        c.range("twelve pieces were played", 0, 11, BAD, v -> pieces(12).played(v));
        ShadowBand x = night(8);
        for (int s = 1; s < 8; s++) {
            x.seen();
        }
        x.go(600);
        c.due("a cue that is seen does not count", x.played(0), 7);
        x.go(600);
        c.due("a theme in all eight stretches", x.played(0), 8);
        ShadowBand y = pieces(12);
        y.programme(12);
        y.begin();
        c.due("piece 0 was played", y.played(0), 1);
        c.due("piece 11 was not", y.played(11), 0);
    }

    private static ShadowBand fee(int fee) {
        ShadowBand x = Bands.stretches(2);
        x.piece(1, 60060, 1, fee);
        x.block(0, 10, 3, 0);
        x.programme(12);
        return x;
    }

    /** "a FEE (0 .. 999)"; "FEES of all NIGHTS." */
    private static void feesFromNoneToMost(Check c) {
        int[] fees = {0, 1, 998, 999};
        for (int fee : fees) {
            ShadowBand x = fee(fee);
            c.due("a programme alone costs nothing " + fee, x.fees(), 0);
            x.begin();
            c.due("one begins " + fee, x.fees(), fee);
            x.seen();
            c.due("a cue alone costs nothing " + fee, x.fees(), fee);
            x.go(600);
            c.due("two have begun " + fee, x.fees(), 2 * fee);
            x.begin();
            c.due("another night " + fee, x.fees(), 3 * fee);
            x.go(600);
            c.due("vamps cost nothing " + fee, x.fees(), 3 * fee);
        }
        c.due("nothing at first", new ShadowBand().fees(), 0);
    }

    /** "(Counts of FEES and PLAYED go on.)" */
    private static void countsGoOn(Check c) {
        ShadowBand x = night(3);
        x.seen();
        x.go(250);
        for (int nights = 2; nights <= 5; nights++) {
            c.due("begin", x.begin(), 3);
            c.due("played " + nights, x.played(0), nights + 1);
            c.due("fees " + nights, x.fees(), 3 * (nights + 1));
            c.due("count " + nights, x.count(5), nights + 1);
            nows(c, "all else begins anew", x, 0, 0, 0, 0, 0, 0, 0, 0, 0);
        }
        x.programme(30);
        c.due("a programme changes no count", x.count(5), 6);
    }

    /** "a NIGHT goes on by the one with which it began". */
    private static void goesOnByItsOwnProgramme(Check c) {
        ShadowBand x = night(2);
        x.go(50);
        int other = Bands.piece(x, 0, 0, 20);
        x.cue(1, 0);
        c.due("another programme", x.programme(12), 0);
        c.due("by another piece", x.given(0, 0), other);
        c.due("the night goes on", x.go(50), 100);
        nows(c, "by its own", x, 0, 1, 0, 1, 0, 100, 0, 0, 10);
        c.due("with its own cue", x.seen(), 1);
        x.go(60);
        nows(c, "to its own second stretch", x, 1, 0, 0, 1, 60, 160, 0, 1, 0);
        c.due("and its own end", x.go(600), 260);
        for (int i = 2; i < 10; i++) {
            x.shot(120, 0);
            x.cue(i, 1);
        }
        c.due("nine stretches now", x.programme(12), BIG);
        c.due("begins by the one found last", x.begin(), 1);
        c.due("of the other piece", x.now(2), other);
        c.due("as long as the film was then", x.go(600), 200);
    }

    /** "(its WAYS as they were then)". */
    private static void waysAsTheyWereThen(Check c) {
        ShadowBand x = night(2);
        x.block(0, 10, 3, 0);
        c.due("one block would do now", x.way(0, 10), 1);
        x.go(40);
        c.due("the night goes on by its way", x.now(1), 1);
        x.begin();
        c.due("a new one, too", x.now(1), 0);
        x.go(40);
        c.due("by the way as it was", x.now(1), 1);
        x.programme(12);
        c.due("this one still", x.now(1), 1);
        x.begin();
        c.due("the way as it is now", x.now(1), 2);
    }
}
