import java.util.ArrayList;
import java.util.Arrays;

/**
 * A cinema's band under films that never run at one speed: the film and its cues, the pieces and
 * their ways, the programme of the least misfit, the night as it is played, and the drummer's
 * effects.
 */
public final class ShadowBand {
    public static final int BAD = -1, NOT = -2, FULL = -3, BIG = -4;

    private static final int MOST_SHOTS = 60;
    private static final int MOST_FRAMES = 2000;
    private static final int LAST_MOOD = 5;
    private static final int ALL_MOODS = 63;
    private static final int LEAST_SPEED = 12;
    private static final int MOST_SPEED = 30;
    private static final int MOST_TENTHS = 100000;

    private static final int MOST_PIECES = 12;
    private static final int KEYS = 12;
    private static final int LEAST_PACE = 30;
    private static final int MOST_PACE = 240;
    private static final int MOST_FEE = 999;
    private static final int MOST_BLOCKS = 8;
    private static final int MOST_BLOCK_BEATS = 64;
    private static final int ALL_BLOCKS = 255;
    private static final int EXIT = 1;
    private static final int ENTRY = 2;
    private static final int MOST_BEATS = 400;
    private static final int MOST_WAY = 16;
    private static final int NO_WAY = MOST_WAY + 1;

    private static final int MOST_STRETCHES = 8;
    private static final int MOST_WEIGHT = 99;
    private static final int FARTHEST_STEP = 6;

    /** All costs of a programme stay below this: 100000 and 8 times 8000 TENTHS, and 7 joins. */
    private static final int COST_BITS = 20;
    private static final int NO_COST = (1 << COST_BITS) - 1;
    private static final int SEARCHES = (1 << 12) - 1;

    private static final int MOST_GO = 600;
    private static final int MOST_TURNS = 64;

    private static final int MOST_EFFECTS = 30;
    private static final int MOST_WEIGHED_EFFECTS = 12;
    private static final int MOST_HANDS = 4;
    private static final int BAD_TENTH = -99;

    private final Film film;
    private final ArrayList<Piece> pieces;
    private final Planner planner;
    private final Drummer drummer;
    /** Empty before any was found. */
    private ArrayList<Part> found;
    /** Null before any night. */
    private Night night;

    public ShadowBand() {
        film = new Film();
        pieces = new ArrayList<>();
        planner = new Planner();
        drummer = new Drummer();
        found = new ArrayList<>();
        night = null;
    }

    // ---- the film

    public int shot(int frames, int mood) {
        if (!within(frames, 1, MOST_FRAMES) || !within(mood, 0, LAST_MOOD)) {
            return BAD;
        }
        return film.add(frames, mood);
    }

    public int cue(int shot, int is) {
        if (!within(shot, 1, film.shotCount() - 1) || !within(is, 0, 1)) {
            return BAD;
        }
        return film.mark(shot, is);
    }

    public int stretches() {
        return film.stretchCount();
    }

    public int stretch(int s, int what) {
        int first = film.firstShot(s);
        if (first < 0) {
            return BAD;
        }
        int last = film.lastShot(first);
        switch (what) {
            case 0:
                return first;
            case 1:
                return last;
            case 2:
                return film.framesFrom(first, last);
            case 3:
                return film.moodOf(first);
            default:
                return BAD;
        }
    }

    public int tenths(int s, int speed) {
        if (!within(speed, LEAST_SPEED, MOST_SPEED)) {
            return BAD;
        }
        if (s == -1) {
            return film.tenthsFrom(0, film.shotCount() - 1, speed);
        }
        int first = film.firstShot(s);
        return first < 0 ? BAD : film.tenthsFrom(first, film.lastShot(first), speed);
    }

    // ---- pieces

    public int piece(int what, int beats, int theme, int fee) {
        if (what < 0 || beats < 0 || !within(theme, 0, 1) || !within(fee, 0, MOST_FEE)) {
            return BAD;
        }
        int key = what / 100;
        int moods = what % 100;
        int slow = beats / 1000;
        int fast = beats % 1000;
        if (key >= KEYS || !within(moods, 1, ALL_MOODS)) {
            return BAD;
        }
        if (slow < LEAST_PACE || slow > fast || fast > MOST_PACE) {
            return BAD;
        }
        if (pieces.size() >= MOST_PIECES) {
            return FULL;
        }
        pieces.add(new Piece(key, moods, slow, fast, theme == 1, fee));
        return pieces.size() - 1;
    }

    public int block(int piece, int beats, int how, int next) {
        Piece p = pieceAt(piece);
        if (p == null || !within(beats, 1, MOST_BLOCK_BEATS)) {
            return BAD;
        }
        if (!within(how, 0, ENTRY + EXIT) || !within(next, 0, ALL_BLOCKS)) {
            return BAD;
        }
        return p.add(beats, how, next);
    }

    public int way(int piece, int b) {
        Piece p = pieceAt(piece);
        if (p == null || !within(b, 1, MOST_BEATS)) {
            return BAD;
        }
        int length = p.wayLength(b);
        return length == NO_WAY ? NOT : length;
    }

    public int along(int piece, int b, int i) {
        Piece p = pieceAt(piece);
        if (p == null || !within(b, 1, MOST_BEATS)) {
            return BAD;
        }
        int[] row = p.wayFor(b);
        return within(i, 0, row.length - 1) ? row[i] : BAD;
    }

    public int misfit(int piece, int b, int t) {
        Piece p = pieceAt(piece);
        if (p == null || !within(b, 1, MOST_BEATS) || !within(t, 0, MOST_TENTHS)) {
            return BAD;
        }
        return p.misses(b, t);
    }

    public int best(int piece, int t) {
        Piece p = pieceAt(piece);
        if (p == null || !within(t, 0, MOST_TENTHS)) {
            return BAD;
        }
        return p.bestBeats(t);
    }

    // ---- programmes

    public int step(int a, int b) {
        if (!within(a, 0, KEYS - 1) || !within(b, 0, KEYS - 1)) {
            return BAD;
        }
        return fifthsBetween(a, b);
    }

    public int rule(int what, int v) {
        if (what == 0 && within(v, 0, MOST_WEIGHT)) {
            return planner.changeWeight(v);
        }
        if (what == 1 && within(v, 0, FARTHEST_STEP)) {
            return planner.changeMost(v);
        }
        return BAD;
    }

    public int programme(int speed) {
        if (!within(speed, LEAST_SPEED, MOST_SPEED)) {
            return BAD;
        }
        if (film.stretchCount() > MOST_STRETCHES) {
            return BIG;
        }
        if (film.stretchCount() == 0 || pieces.isEmpty()) {
            return NOT;
        }
        planner.prepare(film, pieces, speed);
        int cost = planner.leastCost();
        if (cost == NO_COST) {
            return NOT;
        }
        found = planner.parts(pieces, planner.choose());
        return cost;
    }

    public int given(int s, int what) {
        if (!within(s, 0, found.size() - 1)) {
            return BAD;
        }
        Part part = found.get(s);
        switch (what) {
            case 0:
                return part.number;
            case 1:
                return part.beats;
            case 2:
                return part.missed;
            case 3:
                return part.stepOn;
            default:
                return BAD;
        }
    }

    // ---- the night

    public int begin() {
        if (found.isEmpty()) {
            return NOT;
        }
        night = new Night(found, found.get(0));
        return found.size();
    }

    public int go(int n) {
        if (!within(n, 1, MOST_GO)) {
            return BAD;
        }
        if (night == null || night.hasEnded()) {
            return NOT;
        }
        return night.run(n);
    }

    public int seen() {
        return night == null ? NOT : night.seeCue();
    }

    public int reel(int is) {
        if (!within(is, 0, 1)) {
            return BAD;
        }
        return night == null ? NOT : night.breakReel(is);
    }

    public int now(int what) {
        return night == null ? BAD : night.tell(what);
    }

    public int played(int piece) {
        Piece p = pieceAt(piece);
        return p == null ? BAD : p.plays;
    }

    public int fees() {
        int sum = 0;
        for (int i = 0; i < pieces.size(); i++) {
            Piece p = pieces.get(i);
            sum += p.plays * p.fee;
        }
        return sum;
    }

    // ---- effects

    public int effect(int from, int to, int hands) {
        if (from < 0 || from >= to || to > MOST_TENTHS || !within(hands, 1, MOST_HANDS)) {
            return BAD;
        }
        return drummer.add(from, to, hands);
    }

    public int hands(int n) {
        return within(n, 0, MOST_HANDS) ? drummer.changeHands(n) : BAD;
    }

    public int free(int tenth) {
        return within(tenth, 0, MOST_TENTHS - 1) ? drummer.freeHands(tenth, 0) : BAD_TENTH;
    }

    public int clash() {
        return drummer.firstClash();
    }

    public int left() {
        return drummer.leastLeftOut();
    }

    public int count(int what) {
        switch (what) {
            case 0:
                return film.shotCount();
            case 1:
                return film.framesFrom(0, film.shotCount() - 1);
            case 2:
                return pieces.size();
            case 3:
                return allBlocks();
            case 4:
                return drummer.effectCount();
            case 5:
                return allPlays();
            default:
                return BAD;
        }
    }

    private int allBlocks() {
        int sum = 0;
        for (int i = 0; i < pieces.size(); i++) {
            sum += pieces.get(i).blocks;
        }
        return sum;
    }

    private int allPlays() {
        int sum = 0;
        for (int i = 0; i < pieces.size(); i++) {
            sum += pieces.get(i).plays;
        }
        return sum;
    }

    /** Null if there is no such piece. */
    private Piece pieceAt(int number) {
        return within(number, 0, pieces.size() - 1) ? pieces.get(number) : null;
    }

    private static boolean within(int number, int least, int most) {
        return number >= least && number <= most;
    }

    private static int fifthsBetween(int a, int b) {
        int up = Math.floorMod(7 * (b - a), KEYS);
        return Math.min(up, KEYS - up);
    }

    /** Shots in their order, and which of them are cues. */
    private static final class Film {
        private final int[] frames = new int[MOST_SHOTS];
        private final int[] moods = new int[MOST_SHOTS];
        private final boolean[] cues = new boolean[MOST_SHOTS];
        private int shots;

        int add(int length, int mood) {
            if (shots >= MOST_SHOTS) {
                return FULL;
            }
            frames[shots] = length;
            moods[shots] = mood;
            cues[shots] = shots == 0;
            shots++;
            return shots - 1;
        }

        int shotCount() {
            return shots;
        }

        int mark(int shot, int is) {
            if (!within(shot, 0, shots - 1)) {
                return BAD;
            }
            int was = cues[shot] ? 1 : 0;
            cues[shot] = is == 1;
            return was;
        }

        int stretchCount() {
            int sum = 0;
            for (int i = 0; i < shots; i++) {
                if (cues[i]) {
                    sum++;
                }
            }
            return sum;
        }

        /** BAD if there is no such stretch. */
        int firstShot(int s) {
            int stretch = -1;
            for (int i = 0; i < shots; i++) {
                if (cues[i]) {
                    stretch++;
                }
                if (cues[i] && stretch == s) {
                    return i;
                }
            }
            return BAD;
        }

        int lastShot(int first) {
            for (int i = Math.max(0, first) + 1; i < shots; i++) {
                if (cues[i]) {
                    return i - 1;
                }
            }
            return shots - 1;
        }

        int framesFrom(int first, int last) {
            int sum = 0;
            for (int i = Math.max(0, first); i <= last && i < shots; i++) {
                sum += frames[i];
            }
            return sum;
        }

        int tenthsFrom(int first, int last, int speed) {
            return framesFrom(first, last) * 10 / Math.max(1, speed);
        }

        int moodOf(int shot) {
            return within(shot, 0, shots - 1) ? moods[shot] : BAD;
        }
    }

    /** A piece with its blocks, the ways through them, and how often it was played. */
    private static final class Piece {
        final int key;
        final int moods;
        final boolean theme;
        final int fee;
        int blocks;
        int plays;
        private final int slow;
        private final int fast;
        private final int[] beats = new int[MOST_BLOCKS];
        private final int[] next = new int[MOST_BLOCKS];
        private int entries;
        private int exits;
        /** By beats and block: the fewest blocks from this one to an exit with these beats. */
        private final int[] fewest = new int[(MOST_BEATS + 1) * MOST_BLOCKS];
        /** By beats: how many blocks the way has. */
        private final int[] lengths = new int[MOST_BEATS + 1];

        Piece(int key, int moods, int slow, int fast, boolean theme, int fee) {
            this.key = key;
            this.moods = moods;
            this.slow = Math.max(1, slow);
            this.fast = Math.max(1, fast);
            this.theme = theme;
            this.fee = fee;
            Arrays.fill(lengths, NO_WAY);
        }

        int add(int length, int how, int nextOnes) {
            if (blocks >= MOST_BLOCKS) {
                return FULL;
            }
            beats[blocks] = length;
            next[blocks] = nextOnes;
            if ((how & ENTRY) != 0) {
                entries |= 1 << blocks;
            }
            if ((how & EXIT) != 0) {
                exits |= 1 << blocks;
            }
            blocks++;
            findWays();
            return blocks - 1;
        }

        int beatsOf(int block) {
            return within(block, 0, MOST_BLOCKS - 1) ? beats[block] : 0;
        }

        boolean isExit(int block) {
            return within(block, 0, MOST_BLOCKS - 1) && (exits >> block & 1) == 1;
        }

        boolean hasMood(int mood) {
            return within(mood, 0, LAST_MOOD) && (moods >> mood & 1) == 1;
        }

        /** NO_WAY if there is none. */
        int wayLength(int b) {
            return within(b, 1, MOST_BEATS) ? lengths[b] : NO_WAY;
        }

        /** An empty row if there is none. */
        int[] wayFor(int b) {
            int length = wayLength(b);
            int[] row = new int[length == NO_WAY ? 0 : length];
            int set = entries;
            int rest = b;
            for (int i = 0; i < row.length; i++) {
                row[i] = leader(set, rest);
                rest -= beatsOf(row[i]);
                set = nextOf(row[i]);
            }
            return row;
        }

        private int nextOf(int block) {
            return within(block, 0, MOST_BLOCKS - 1) ? next[block] : 0;
        }

        /** A block more may be a next one of any other, so all ways are found anew. */
        private void findWays() {
            for (int b = 1; b <= MOST_BEATS; b++) {
                for (int block = 0; block < blocks; block++) {
                    fewest[b * MOST_BLOCKS + block] = fewestFrom(block, b);
                }
                lengths[b] = fewestAmong(entries, b);
            }
        }

        private int fewestFrom(int block, int b) {
            int rest = b - beatsOf(block);
            if (rest < 0) {
                return NO_WAY;
            }
            if (rest == 0) {
                return isExit(block) ? 1 : NO_WAY;
            }
            return Math.min(NO_WAY, 1 + fewestAmong(nextOf(block), rest));
        }

        private int fewestAmong(int set, int b) {
            int block = leader(set, b);
            return block < 0 ? NO_WAY : fewest[b * MOST_BLOCKS + block];
        }

        /** Of a set the first block with the fewest blocks to go for so many beats; -1: none. */
        private int leader(int set, int b) {
            int found = -1;
            int least = NO_WAY;
            if (!within(b, 1, MOST_BEATS)) {
                return found;
            }
            for (int block = 0; block < blocks; block++) {
                int blocksToGo = fewest[b * MOST_BLOCKS + block];
                if ((set >> block & 1) == 1 && blocksToGo < least) {
                    least = blocksToGo;
                    found = block;
                }
            }
            return found;
        }

        /** So many tenths, held between the least and the most that b beats last. */
        int held(int b, int tenths) {
            return Math.max(600 * b / fast, Math.min(600 * b / slow, tenths));
        }

        int misses(int b, int tenths) {
            return Math.abs(tenths - held(b, tenths));
        }

        /** NOT if the piece has no way. */
        int bestBeats(int tenths) {
            int found = NOT;
            int least = 0;
            for (int b = 1; b <= MOST_BEATS; b++) {
                int missed = misses(b, tenths);
                if (lengths[b] != NO_WAY && (found == NOT || missed < least)) {
                    least = missed;
                    found = b;
                }
            }
            return found;
        }
    }

    /** What a programme gives to one stretch, with the way as it was when it was found. */
    private static final class Part {
        final Piece piece;
        final int number;
        final int beats;
        final int missed;
        final int stepOn;
        private final int span;
        private final int[] row;
        private final int[] rowBeats;
        /** By places of the row, as bits. */
        private final int exits;

        Part(Piece piece, int number, int beats, int tenths, int stepOn) {
            this.piece = piece;
            this.number = number;
            this.beats = beats;
            this.missed = piece.misses(beats, tenths);
            this.stepOn = stepOn;
            this.span = Math.max(1, piece.held(beats, tenths));
            this.row = piece.wayFor(beats);
            this.rowBeats = new int[row.length];
            int exitBits = 0;
            for (int i = 0; i < row.length; i++) {
                rowBeats[i] = piece.beatsOf(row[i]);
                exitBits |= piece.isExit(row[i]) ? 1 << i : 0;
            }
            this.exits = exitBits;
        }

        int beatsAfter(int tenths) {
            return tenths * beats / span;
        }

        boolean hasPlace(int place) {
            return place >= 0 && place < row.length;
        }

        int blockAt(int place) {
            return hasPlace(place) ? row[place] : BAD;
        }

        int beatsAt(int place) {
            return hasPlace(place) ? rowBeats[place] : 0;
        }

        boolean isExitAt(int place) {
            return hasPlace(place) && (exits >> place & 1) == 1;
        }
    }

    /**
     * Finds the programme of the least cost: the least cost of all stretches from one on hangs on
     * that stretch, the pieces used up and the last piece alone, so each such state is weighed
     * once.
     */
    private static final class Planner {
        private int weight = 1;
        private int most = FARTHEST_STEP;
        private int stretchCount;
        private int pieceCount;
        private final int[] spans = new int[MOST_STRETCHES];
        /** By stretch and piece; NOT where the piece can't be played there. */
        private final int[] beats = new int[MOST_STRETCHES * MOST_PIECES];
        private final int[] misfits = new int[MOST_STRETCHES * MOST_PIECES];
        /** By piece and piece; NO_COST where they can't be joined. */
        private final int[] joins = new int[MOST_PIECES * MOST_PIECES];
        /** By piece: its bit in the sets of used ones; 0 where it can't be used up. */
        private final int[] bits = new int[MOST_PIECES];
        private int sets;
        /** Where each piece has a bit, the set alone tells the stretch. */
        private boolean setTellsStretch;
        private int search;
        /** Costs under the number of the search that found them, so that no search clears them. */
        private int[] known = new int[0];

        int changeWeight(int v) {
            int was = weight;
            weight = v;
            return was;
        }

        int changeMost(int v) {
            int was = most;
            most = v;
            return was;
        }

        void prepare(Film film, ArrayList<Piece> pieces, int speed) {
            stretchCount = Math.min(film.stretchCount(), MOST_STRETCHES);
            pieceCount = Math.min(pieces.size(), MOST_PIECES);
            for (int s = 0; s < stretchCount; s++) {
                int first = film.firstShot(s);
                spans[s] = film.tenthsFrom(first, film.lastShot(first), speed);
                fitPieces(s, film.moodOf(first), pieces);
            }
            weighJoins(pieces);
            shareBits(pieces);
            makeRoom();
        }

        private void fitPieces(int s, int mood, ArrayList<Piece> pieces) {
            for (int p = 0; p < pieceCount; p++) {
                Piece piece = pieces.get(p);
                int b = piece.hasMood(mood) ? piece.bestBeats(spans[s]) : NOT;
                beats[s * MOST_PIECES + p] = b;
                misfits[s * MOST_PIECES + p] = b == NOT ? NOT : piece.misses(b, spans[s]);
            }
        }

        private void weighJoins(ArrayList<Piece> pieces) {
            for (int p = 0; p < pieceCount; p++) {
                for (int q = 0; q < pieceCount; q++) {
                    int steps = fifthsBetween(pieces.get(p).key, pieces.get(q).key);
                    joins[p * MOST_PIECES + q] = steps > most ? NO_COST : steps * weight;
                }
            }
        }

        private void shareBits(ArrayList<Piece> pieces) {
            sets = 1;
            setTellsStretch = true;
            for (int p = 0; p < pieceCount; p++) {
                boolean usedUp = !pieces.get(p).theme;
                bits[p] = 0;
                if (usedUp && canBePlayed(p)) {
                    bits[p] = sets;
                    sets *= 2;
                }
                setTellsStretch = setTellsStretch && usedUp;
            }
        }

        private boolean canBePlayed(int p) {
            for (int s = 0; s < stretchCount; s++) {
                if (beats[s * MOST_PIECES + p] != NOT) {
                    return true;
                }
            }
            return false;
        }

        private void makeRoom() {
            int layers = setTellsStretch ? 1 : stretchCount;
            int size = layers * sets * MOST_PIECES;
            if (known.length < size) {
                known = new int[Math.max(size, 2 * known.length)];
            }
            search = (search + 1) & SEARCHES;
        }

        /** Of all stretches; NO_COST if there is no programme. */
        int leastCost() {
            return leastFrom(0, 0, -1);
        }

        /** The least cost of the stretches from s on, behind the piece last (-1: none). */
        private int leastFrom(int s, int used, int last) {
            if (s >= stretchCount) {
                return 0;
            }
            int place = placeOf(s, used, last);
            if (place >= 0 && known[place] >>> COST_BITS == search) {
                return known[place] & NO_COST;
            }
            int least = NO_COST;
            for (int p = 0; p < pieceCount; p++) {
                least = Math.min(least, costWith(s, used, last, p));
            }
            if (place >= 0) {
                known[place] = search << COST_BITS | least;
            }
            return least;
        }

        /** -1 where nothing is kept. */
        private int placeOf(int s, int used, int last) {
            int layer = setTellsStretch ? 0 : s;
            int place = (layer * sets + used) * MOST_PIECES + last;
            return last >= 0 && within(place, 0, known.length - 1) ? place : -1;
        }

        private int costWith(int s, int used, int last, int p) {
            int missed = misfits[s * MOST_PIECES + p];
            int join = last < 0 ? 0 : joins[last * MOST_PIECES + p];
            if (missed < 0 || join == NO_COST || (used & bits[p]) != 0) {
                return NO_COST;
            }
            int rest = leastFrom(s + 1, used | bits[p], p);
            return rest == NO_COST ? NO_COST : missed + join + rest;
        }

        /** By stretch the piece, in the first of the cheapest programmes. */
        int[] choose() {
            int[] chosen = new int[stretchCount];
            int used = 0;
            int last = -1;
            for (int s = 0; s < stretchCount; s++) {
                last = firstOfLeast(s, used, last);
                chosen[s] = last;
                used |= bits[last];
            }
            return chosen;
        }

        ArrayList<Part> parts(ArrayList<Piece> pieces, int[] chosen) {
            ArrayList<Part> parts = new ArrayList<>();
            for (int s = 0; s < chosen.length && s < stretchCount; s++) {
                int p = chosen[s];
                int q = s + 1 < chosen.length ? chosen[s + 1] : p;
                if (!within(p, 0, pieces.size() - 1) || !within(q, 0, pieces.size() - 1)) {
                    return parts;
                }
                int steps = fifthsBetween(pieces.get(p).key, pieces.get(q).key);
                int b = beats[s * MOST_PIECES + p];
                parts.add(new Part(pieces.get(p), p, b, spans[s], steps));
            }
            return parts;
        }

        private int firstOfLeast(int s, int used, int last) {
            int least = leastFrom(s, used, last);
            for (int p = 0; p < pieceCount; p++) {
                if (costWith(s, used, last, p) == least) {
                    return p;
                }
            }
            return 0;
        }
    }

    /** A night by one programme, from its first tenth to its end. */
    private static final class Night {
        private final ArrayList<Part> parts;
        private final int[] seenAt = new int[MOST_STRETCHES];
        private Part part;
        private int stretch;
        private int start;
        private int place;
        private int blockEnd;
        private int clock;
        private int vamps;
        private int late;
        private int cuesSeen;
        private boolean ended;
        private boolean broken;

        Night(ArrayList<Part> parts, Part first) {
            this.parts = parts;
            enter(first);
        }

        private void enter(Part next) {
            part = next;
            part.piece.plays++;
            start = clock;
            place = 0;
            blockEnd = part.beatsAt(0);
        }

        boolean hasEnded() {
            return ended;
        }

        int run(int n) {
            for (int i = 0; i < n && !ended; i++) {
                tick();
            }
            return clock;
        }

        private void tick() {
            clock++;
            for (int i = 0; i < MOST_TURNS && !ended && beatsDone() >= blockEnd; i++) {
                turn();
            }
        }

        private int beatsDone() {
            return part.beatsAfter(clock - start);
        }

        /** What comes when the block that is played has ended. */
        private void turn() {
            if (cuesSeen > stretch && part.isExitAt(place)) {
                takeCue();
            } else if (part.hasPlace(place + 1)) {
                place++;
                blockEnd += part.beatsAt(place);
            } else if (stretch + 1 >= parts.size()) {
                ended = true;
            } else {
                vamps++;
                blockEnd += part.beatsAt(place);
            }
        }

        private void takeCue() {
            int next = stretch + 1;
            if (next >= parts.size() || next >= seenAt.length) {
                return;
            }
            stretch = next;
            late += clock - seenAt[next];
            enter(parts.get(next));
        }

        int seeCue() {
            int next = cuesSeen + 1;
            if (ended || broken || next >= parts.size() || next >= seenAt.length) {
                return NOT;
            }
            seenAt[next] = clock;
            cuesSeen = next;
            return next;
        }

        int breakReel(int is) {
            int was = broken ? 1 : 0;
            broken = is == 1;
            return was;
        }

        int tell(int what) {
            switch (what) {
                case 0:
                    return stretch;
                case 1:
                    return part.blockAt(place);
                case 2:
                    return part.number;
                case 3:
                    return vamps;
                case 4:
                    return late;
                case 5:
                    return clock;
                case 6:
                    return ended ? 1 : 0;
                case 7:
                    return cuesSeen;
                case 8:
                    return beatsDone();
                default:
                    return BAD;
            }
        }
    }

    /** The drummer's hands and the effects that need them. */
    private static final class Drummer {
        private final int[] from = new int[MOST_EFFECTS];
        private final int[] to = new int[MOST_EFFECTS];
        private final int[] needs = new int[MOST_EFFECTS];
        private int effects;
        private int ownHands = 2;

        int add(int first, int end, int handsNeeded) {
            if (effects >= MOST_EFFECTS) {
                return FULL;
            }
            from[effects] = first;
            to[effects] = end;
            needs[effects] = handsNeeded;
            effects++;
            return effects - 1;
        }

        int effectCount() {
            return effects;
        }

        int changeHands(int n) {
            int was = ownHands;
            ownHands = n;
            return was;
        }

        /** With the effects of the set out left out. */
        int freeHands(int tenth, int out) {
            int rest = ownHands;
            for (int i = 0; i < effects; i++) {
                boolean kept = (out >> i & 1) == 0;
                if (kept && from[i] <= tenth && tenth < to[i]) {
                    rest -= needs[i];
                }
            }
            return rest;
        }

        /** Hands grow fewer only where an effect begins, so no other tenth can be the first. */
        int firstClash() {
            int first = NOT;
            for (int i = 0; i < effects; i++) {
                boolean earlier = first == NOT || from[i] < first;
                if (earlier && freeHands(from[i], 0) < 0) {
                    first = from[i];
                }
            }
            return first;
        }

        int leastLeftOut() {
            if (effects > MOST_WEIGHED_EFFECTS) {
                return BIG;
            }
            int all = (1 << effects) - 1;
            int best = all;
            for (int out = 0; out < all; out++) {
                if (isAhead(out, best) && isEnoughWithout(out)) {
                    best = out;
                }
            }
            return best;
        }

        /** Of two sets of one size the first is the one that has the least number not in both. */
        private static boolean isAhead(int set, int other) {
            int size = Integer.bitCount(set);
            int otherSize = Integer.bitCount(other);
            int differing = set ^ other;
            boolean hasLeast = (set & differing & -differing) != 0;
            return size < otherSize || size == otherSize && hasLeast;
        }

        private boolean isEnoughWithout(int out) {
            for (int i = 0; i < effects; i++) {
                boolean kept = (out >> i & 1) == 0;
                if (kept && freeHands(from[i], out) < 0) {
                    return false;
                }
            }
            return true;
        }
    }
}
