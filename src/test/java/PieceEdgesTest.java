/** The pieces' edges (terms, promises 7 to 12), sentence by sentence. */
public final class PieceEdgesTest {
    private static final int BAD = ShadowBand.BAD;
    private static final int NOT = ShadowBand.NOT;
    private static final int FULL = ShadowBand.FULL;

    public static void main(String[] args) {
        Check c = new Check();
        keysAndMoods(c);
        slowAndFast(c);
        themeAndFee(c);
        twelvePieces(c);
        rangesOfBlock(c);
        eightBlocks(c);
        entryAndExit(c);
        nextOnesThatAreNoneYet(c);
        rangesOfWay(c);
        oneToSixteenBlocks(c);
        fewestBlocks(c);
        firstByBlocks(c);
        rangesOfAlong(c);
        rangesOfMisfit(c);
        bothEndsCounted(c);
        rangesOfBest(c);
        leastOfSeveral(c);
        noBestBeyondTheWays(c);
        c.end();
    }

    /** "KEY (0 .. 11), a set of MOODS (bits, 1 .. 63)"; "what: 100 times KEY, and MOODS". */
    private static void keysAndMoods(Check c) {
        c.range("what", 1, 1163, BAD, v -> new ShadowBand().piece(v, 60060, 0, 0));
        for (int key = 0; key <= 11; key++) {
            int hundreds = 100 * key;
            c.range("moods of key " + key, hundreds + 1, hundreds + 63, BAD,
                v -> new ShadowBand().piece(v, 60060, 0, 0));
            c.due("moods 99 of key " + key, new ShadowBand().piece(hundreds + 99, 60060, 0, 0),
                BAD);
        }
        c.due("key 12", new ShadowBand().piece(1201, 60060, 0, 0), BAD);
        c.due("key -1", new ShadowBand().piece(-99, 60060, 0, 0), BAD);
        c.due("key -1, below", new ShadowBand().piece(-101, 60060, 0, 0), BAD);
    }

    /** "beats a minute from SLOW to FAST (30 .. 240)"; "(SLOW at most FAST)". */
    private static void slowAndFast(Check c) {
        c.range("slow", 30, 240, BAD, v -> pieceOfPace(v, 240));
        c.range("fast", 30, 240, BAD, v -> pieceOfPace(30, v));
        c.range("slow up to fast", 30, 100, BAD, v -> pieceOfPace(v, 100));
        c.range("fast from slow on", 100, 240, BAD, v -> pieceOfPace(100, v));
        c.due("fast 999", pieceOfPace(30, 999), BAD);
        c.due("beats -1", new ShadowBand().piece(1, -1, 0, 0), BAD);
        c.due("beats 0", new ShadowBand().piece(1, 0, 0, 0), BAD);
        c.due("beats far below 0", new ShadowBand().piece(1, -30030, 0, 0), BAD);
    }

    /** Paces that would not fit their places of the number are given as they are, to be refused. */
    private static int pieceOfPace(int slow, int fast) {
        boolean fits = slow >= 0 && slow < 1000 && fast >= 0 && fast < 1000;
        int beats = fits ? 1000 * slow + fast : slow < 0 || fast < 0 ? Integer.MIN_VALUE
            : Integer.MAX_VALUE;
        return new ShadowBand().piece(1, beats, 0, 0);
    }

    /** "theme 1 or 0"; "a FEE (0 .. 999)". */
    private static void themeAndFee(Check c) {
        c.range("theme", 0, 1, BAD, v -> new ShadowBand().piece(1, 60060, v, 0));
        c.range("fee", 0, 999, BAD, v -> new ShadowBand().piece(1, 60060, 0, v));
    }

    /** "PIECES 0 .. 11"; FULL; "A PIECE without BLOCKS". */
    private static void twelvePieces(Check c) {
        ShadowBand x = new ShadowBand();
        for (int p = 0; p < 11; p++) {
            x.piece(1, 60060, 0, 0);
        }
        c.due("the last piece", x.piece(1163, 240240, 1, 999), 11);
        c.due("no piece 12", x.piece(1, 60060, 0, 0), FULL);
        c.due("bad is named ahead of full: what", x.piece(1164, 60060, 0, 0), BAD);
        c.due("bad is named ahead of full: beats", x.piece(1, 60059, 0, 0), BAD);
        c.due("bad is named ahead of full: theme", x.piece(1, 60060, 2, 0), BAD);
        c.due("bad is named ahead of full: fee", x.piece(1, 60060, 0, 1000), BAD);
        c.due("twelve", x.count(2), 12);
        c.due("without blocks", x.count(3), 0);
        c.due("the last one has no way", x.way(11, 1), NOT);
        c.due("nor a best", x.best(11, 0), NOT);
        c.due("its first block", x.block(11, 1, 3, 0), 0);
        c.due("and now it has one", x.way(11, 1), 1);
        c.due("which the one ahead has not", x.way(10, 1), NOT);
    }

    private static ShadowBand pieces(int n) {
        ShadowBand x = new ShadowBand();
        for (int p = 0; p < n; p++) {
            x.piece(1, 60060, 0, 0);
        }
        return x;
    }

    /** "BEATS (1 .. 64)"; "how: 2 ..., and 1 more ..."; "next: BLOCKS (bits 0 .. 255 ...)". */
    private static void rangesOfBlock(Check c) {
        c.range("block of one piece", 0, 0, BAD, v -> pieces(1).block(v, 1, 3, 0));
        c.range("block of twelve pieces", 0, 11, BAD, v -> pieces(12).block(v, 1, 3, 0));
        c.range("beats of a block", 1, 64, BAD, v -> pieces(1).block(0, v, 3, 0));
        c.range("how", 0, 3, BAD, v -> pieces(1).block(0, 1, v, 0));
        c.range("next", 0, 255, BAD, v -> pieces(1).block(0, 1, 3, v));
    }

    /** "BLOCKS 0 .. 7 of a PIECE"; FULL. */
    private static void eightBlocks(Check c) {
        ShadowBand x = pieces(2);
        for (int b = 0; b < 7; b++) {
            x.block(0, 64, 0, 128);
        }
        c.due("the last block", x.block(0, 9, 3, 128), 7);
        c.due("no block 8", x.block(0, 1, 3, 0), FULL);
        c.due("bad is named ahead of full: beats", x.block(0, 65, 3, 0), BAD);
        c.due("bad is named ahead of full: how", x.block(0, 1, 4, 0), BAD);
        c.due("bad is named ahead of full: next", x.block(0, 1, 3, 256), BAD);
        c.due("the refused ones have no way", x.way(0, 1), NOT);
        c.due("the last block alone", x.way(0, 9), 1);
        c.due("is block 7", x.along(0, 9, 0), 7);
        c.due("itself, too", x.way(0, 18), 2);
        c.due("is block 7 again", x.along(0, 18, 1), 7);
        c.due("eight blocks", x.count(3), 8);
        c.due("another piece has room", x.block(1, 1, 3, 0), 0);
        c.due("nine blocks of all", x.count(3), 9);
    }

    /** "2 if it is an ENTRY, and 1 more if it is an EXIT". */
    private static void entryAndExit(Check c) {
        int[] wayAlone = {NOT, NOT, NOT, 1};
        int[] wayFirst = {NOT, NOT, 2, 2};
        int[] wayLast = {NOT, 2, NOT, 2};
        for (int how = 0; how <= 3; how++) {
            ShadowBand x = pieces(1);
            x.block(0, 1, how, 6);
            x.block(0, 2, 1, 0);
            x.block(0, 4, 2, 1);
            c.due("how " + how + " alone", x.way(0, 1), wayAlone[how]);
            c.due("how " + how + " as the first of a way", x.way(0, 3), wayFirst[how]);
            c.due("how " + how + " as the last of a way", x.way(0, 5), wayLast[how]);
            c.due("how " + how + " in the middle of a way", x.way(0, 7), 3);
        }
    }

    /** "also of such as are none yet: these count when they are there". */
    private static void nextOnesThatAreNoneYet(Check c) {
        ShadowBand x = pieces(1);
        x.block(0, 3, 2, 128);
        c.due("none is there", x.way(0, 8), NOT);
        for (int b = 1; b < 7; b++) {
            x.block(0, 5, 1, 0);
            c.due("block " + b + " is not meant", x.way(0, 8), NOT);
        }
        x.block(0, 5, 1, 0);
        c.due("block 7 is", x.way(0, 8), 2);
        c.due("as the second", x.along(0, 8, 1), 7);
        ShadowBand y = pieces(1);
        y.block(0, 5, 3, 254);
        c.due("all but itself, none of them there", y.way(0, 10), NOT);
        c.due("itself alone", y.way(0, 5), 1);
    }

    private static ShadowBand ofBlock(int beats, int next) {
        ShadowBand x = pieces(1);
        x.block(0, beats, 3, next);
        return x;
    }

    /** "For b BEATS (1 .. 400)"; "NOT: none. BAD." */
    private static void rangesOfWay(Check c) {
        c.range("beats of a way", 1, 400, BAD, v -> ofBlock(1, 1).way(0, v));
        c.range("beats of a way, no block", 1, 400, BAD, v -> pieces(1).way(0, v));
        c.range("piece of a way", 0, 11, BAD, v -> pieces(12).way(v, 1));
        c.due("one beat", ofBlock(1, 1).way(0, 1), 1);
        c.due("400 beats", ofBlock(50, 1).way(0, 400), 8);
        c.due("no block", pieces(1).way(0, 1), NOT);
        c.due("one block of the most beats", ofBlock(64, 0).way(0, 64), 1);
        c.due("one beat less", ofBlock(64, 0).way(0, 63), NOT);
        c.due("one beat more", ofBlock(64, 0).way(0, 65), NOT);
    }

    /** "a row of 1 to 16 BLOCKS". */
    private static void oneToSixteenBlocks(Check c) {
        ShadowBand x = ofBlock(3, 1);
        for (int n = 1; n <= 16; n++) {
            c.due(n + " blocks", x.way(0, 3 * n), n);
            c.due("the last of " + n, x.along(0, 3 * n, n - 1), 0);
        }
        c.due("not 17 blocks", x.way(0, 51), NOT);
        c.due("16 blocks of 25 beats", ofBlock(25, 1).way(0, 400), 16);
        c.due("not 17 of 23", ofBlock(23, 1).way(0, 391), NOT);
        ShadowBand y = ofBlock(1, 1 + 2);
        y.block(0, 2, 1, 0);
        c.due("17 beats: 15 blocks of one, then one of two", y.way(0, 17), 16);
        c.due("the sixteenth is the other one", y.along(0, 17, 15), 1);
        c.due("18 would take 17 blocks", y.way(0, 18), NOT);
    }

    /** "THE WAY is that of the fewest BLOCKS with b BEATS together". */
    private static void fewestBlocks(Check c) {
        ShadowBand x = ofBlock(1, 255);
        x.block(0, 5, 3, 255);
        x.block(0, 6, 3, 255);
        c.due("10 is 5 and 5, not 6 and four of 1", x.way(0, 10), 2);
        c.due("its first", x.along(0, 10, 0), 1);
        c.due("7 is 1 and 6", x.way(0, 7), 2);
        c.due("6 is one block", x.way(0, 6), 1);
        c.due("4 is four", x.way(0, 4), 4);
    }

    /** "of several the first (by BLOCKS, the first that differs being less)". */
    private static void firstByBlocks(Check c) {
        ShadowBand x = pieces(1);
        x.block(0, 2, 2, 4 + 8);
        x.block(0, 2, 2, 4 + 8);
        x.block(0, 3, 1, 0);
        x.block(0, 3, 1, 0);
        c.due("two blocks", x.way(0, 5), 2);
        c.due("first 0, not 1", x.along(0, 5, 0), 0);
        c.due("then 2, not 3", x.along(0, 5, 1), 2);
        ShadowBand y = pieces(1);
        y.block(0, 4, 3, 3);
        y.block(0, 2, 3, 3);
        y.block(0, 4, 2, 2);
        c.due("0 and 1 ahead of 1 and 0", y.along(0, 6, 0), 0);
        c.due("0 and 1 ahead of 2 and 1", y.along(0, 6, 1), 1);
        ShadowBand z = pieces(1);
        z.block(0, 3, 2, 128);
        z.block(0, 2, 2, 64);
        z.block(0, 1, 0, 0);
        z.block(0, 1, 0, 0);
        z.block(0, 1, 0, 0);
        z.block(0, 1, 0, 0);
        z.block(0, 3, 1, 0);
        z.block(0, 2, 1, 0);
        c.due("the first one tells, though its next is greater", z.along(0, 5, 0), 0);
        c.due("block 7 behind it", z.along(0, 5, 1), 7);
    }

    /** "BLOCK i of it. BAD: none such." */
    private static void rangesOfAlong(Check c) {
        c.range("i of one block", 0, 0, BAD, v -> ofBlock(1, 1).along(0, 1, v));
        c.range("i of sixteen blocks", 0, 15, BAD, v -> ofBlock(1, 1).along(0, 16, v));
        c.range("beats to go along", 1, 16, BAD, v -> ofBlock(1, 1).along(0, v, 0));
        c.range("piece to go along", 0, 0, BAD, v -> ofBlock(1, 1).along(v, 1, 0));
        c.due("400 beats to go along", ofBlock(25, 1).along(0, 400, 15), 0);
        c.due("beats 401", ofBlock(25, 1).along(0, 401, 0), BAD);
        c.due("no way", ofBlock(2, 1).along(0, 3, 0), BAD);
        c.due("no block", pieces(1).along(0, 1, 0), BAD);
    }

    /** "MISFIT of b BEATS (1 .. 400) of a PIECE for T TENTHS (0 .. 100000). BAD." */
    private static void rangesOfMisfit(Check c) {
        c.range("beats to miss", 1, 400, BAD, v -> pieces(1).misfit(0, v, 0));
        c.range("tenths to miss", 0, 100000, BAD, v -> pieces(1).misfit(0, 1, v));
        c.range("piece to miss", 0, 11, BAD, v -> pieces(12).misfit(v, 1, 0));
        c.due("the farthest below", Bands.onePiece(30, 30).misfit(0, 400, 0), 8000);
        c.due("the farthest above", Bands.onePiece(240, 240).misfit(0, 1, 100000), 99998);
        c.due("without a way, too", pieces(1).misfit(0, 7, 71), 1);
    }

    /** "from 600 b / FAST to 600 b / SLOW TENTHS (the rest away of both)"; "(both counted)". */
    private static void bothEndsCounted(Check c) {
        // Slow, fast, beats, least and most tenths.
        int[][] due = {{30, 240, 1, 2, 20}, {31, 239, 1, 2, 19}, {30, 240, 400, 1000, 8000},
            {31, 239, 400, 1004, 7741}, {60, 60, 7, 70, 70}, {70, 130, 7, 32, 60},
            {97, 181, 331, 1097, 2047}, {240, 240, 3, 7, 7}, {239, 240, 399, 997, 1001}};
        for (int[] d : due) {
            ShadowBand x = Bands.onePiece(d[0], d[1]);
            String what = d[2] + " beats from " + d[0] + " to " + d[1];
            c.due(what + " below", x.misfit(0, d[2], d[3] - 1), 1);
            c.due(what + " at the lower end", x.misfit(0, d[2], d[3]), 0);
            c.due(what + " between", x.misfit(0, d[2], (d[3] + d[4]) / 2), 0);
            c.due(what + " at the upper end", x.misfit(0, d[2], d[4]), 0);
            c.due(what + " above", x.misfit(0, d[2], d[4] + 1), 1);
        }
    }

    /** "BEST of a PIECE for T: BEATS. BAD; NOT: it has no WAY." */
    private static void rangesOfBest(Check c) {
        c.range("tenths of a best", 0, 100000, BAD, v -> ofBlock(1, 1).best(0, v));
        c.range("tenths of a best, no way", 0, 100000, BAD, v -> pieces(1).best(0, v));
        c.range("piece of a best", 0, 11, BAD, v -> pieces(12).best(v, 0));
        c.due("no block", pieces(1).best(0, 0), NOT);
        ShadowBand x = pieces(1);
        x.block(0, 1, 2, 0);
        c.due("no exit", x.best(0, 0), NOT);
        x.block(0, 1, 1, 0);
        c.due("no way from the entry to the exit", x.best(0, 0), NOT);
        ShadowBand y = pieces(1);
        y.block(0, 64, 2, 1);
        c.due("an entry that comes again for ever", y.best(0, 4000), NOT);
    }

    /** "the BEATS b (that have a WAY) of the least MISFIT; of several the least b". */
    private static void leastOfSeveral(Check c) {
        ShadowBand x = ofBlock(10, 1);
        c.due("no tenths: the least beats", x.best(0, 0), 10);
        c.due("just between two: the least", x.best(0, 150), 10);
        c.due("one tenth nearer to the greater", x.best(0, 151), 20);
        c.due("one tenth nearer to the lesser", x.best(0, 149), 10);
        c.due("just so", x.best(0, 200), 20);
        c.due("the most tenths: the most beats", x.best(0, 100000), 160);
        ShadowBand y = Bands.onePiece(60, 120);
        y.block(0, 1, 3, 1);
        c.due("6 to 12 beats fit: the least", y.best(0, 60), 6);
        c.due("at the upper end of 6", y.best(0, 61), 7);
        ShadowBand z = Bands.onePiece(120, 240);
        z.block(0, 1, 3, 0);
        z.block(0, 4, 3, 0);
        // One beat lasts 2 to 5 tenths, four last 10 to 20.
        c.due("between the ends of both, nearer to the lesser", z.best(0, 7), 1);
        c.due("between the ends of both, nearer to the greater", z.best(0, 8), 4);
    }

    /** Only b 1 .. 400 with a way of 16 blocks at most counts. */
    private static void noBestBeyondTheWays(Check c) {
        c.due("16 blocks of 1", ofBlock(1, 1).best(0, 100000), 16);
        c.due("6 blocks of 64, 448 would be too many", ofBlock(64, 1).best(0, 100000), 384);
        c.due("8 blocks of 50", ofBlock(50, 1).best(0, 100000), 400);
        c.due("one beat alone", ofBlock(1, 0).best(0, 100000), 1);
    }
}
