import java.util.ArrayList;
import java.util.List;

/**
 * The document once more, by plain trial and without any care for speed, to hold ShadowBand's
 * answers against. It shares no code with ShadowBand.
 */
final class SlowBand {
    private static final int BAD = -1, NOT = -2, FULL = -3, BIG = -4;

    private static final class Block {
        int beats;
        boolean entry;
        boolean exit;
        int next;
    }

    private static final class Piece {
        int key;
        int moods;
        int slow;
        int fast;
        boolean theme;
        int fee;
        int played;
        final List<Block> blocks = new ArrayList<>();
        final List<List<Integer>> ways = new ArrayList<>();

        /** Rows by length: whether one of n blocks from this block on has just so many beats. */
        private boolean goes(int block, int n, int beats) {
            Block b = blocks.get(block);
            if (n == 1) {
                return b.exit && b.beats == beats;
            }
            return reach[n][block][beats];
        }

        private boolean[][][] reach;

        void rebuild() {
            reach = new boolean[17][blocks.size()][401];
            for (int n = 2; n <= 16; n++) {
                for (int i = 0; i < blocks.size(); i++) {
                    for (int beats = blocks.get(i).beats + 1; beats <= 400; beats++) {
                        for (int j = 0; j < blocks.size(); j++) {
                            boolean mayFollow = (blocks.get(i).next & (1 << j)) != 0;
                            if (mayFollow && goes(j, n - 1, beats - blocks.get(i).beats)) {
                                reach[n][i][beats] = true;
                            }
                        }
                    }
                }
            }
            ways.clear();
            for (int b = 0; b <= 400; b++) {
                ways.add(b == 0 ? null : find(b));
            }
        }

        private List<Integer> find(int b) {
            for (int n = 1; n <= 16; n++) {
                List<Integer> row = new ArrayList<>();
                int rest = b;
                for (int i = 0; i < n; i++) {
                    int pick = -1;
                    for (int j = blocks.size() - 1; j >= 0; j--) {
                        boolean fits = i == 0 ? blocks.get(j).entry
                            : (blocks.get(row.get(i - 1)).next & (1 << j)) != 0;
                        if (fits && goes(j, n - i, rest)) {
                            pick = j;
                        }
                    }
                    if (pick < 0) {
                        break;
                    }
                    row.add(pick);
                    rest -= blocks.get(pick).beats;
                }
                if (row.size() == n) {
                    return row;
                }
            }
            return null;
        }

        int misfit(int b, int t) {
            int low = 600 * b / fast;
            int high = 600 * b / slow;
            return t < low ? low - t : t > high ? t - high : 0;
        }

        int best(int t) {
            int best = NOT;
            for (int b = 400; b >= 1; b--) {
                if (ways.size() > b && ways.get(b) != null
                    && (best == NOT || misfit(b, t) <= misfit(best, t))) {
                    best = b;
                }
            }
            return best;
        }
    }

    private static final class Given {
        int piece;
        int beats;
        int misfit;
        int step;
        int tenths;
        List<Integer> way;
    }

    private final List<int[]> shots = new ArrayList<>();
    private final List<Boolean> cues = new ArrayList<>();
    private final List<Piece> pieces = new ArrayList<>();
    private int weight = 1;
    private int most = 6;
    private List<Given> found = null;

    private List<Given> sheet = null;
    private int clock;
    private int at;
    private int t0;
    private int index;
    private int repeats;
    private int vamps;
    private int late;
    private boolean ended;
    private boolean broken;
    private final List<Integer> seenAt = new ArrayList<>();

    private final List<int[]> effects = new ArrayList<>();
    private int hands = 2;

    int shot(int frames, int mood) {
        if (frames < 1 || frames > 2000 || mood < 0 || mood > 5) {
            return BAD;
        }
        if (shots.size() == 60) {
            return FULL;
        }
        shots.add(new int[] {frames, mood});
        cues.add(shots.size() == 1);
        return shots.size() - 1;
    }

    int cue(int shot, int is) {
        if (shot < 1 || shot >= shots.size() || is < 0 || is > 1) {
            return BAD;
        }
        return cues.set(shot, is == 1) ? 1 : 0;
    }

    /** Each stretch: first shot, last shot, frames, mood. */
    private List<int[]> all() {
        List<int[]> list = new ArrayList<>();
        for (int i = 0; i < shots.size(); i++) {
            if (cues.get(i)) {
                list.add(new int[] {i, i, 0, shots.get(i)[1]});
            }
            int[] last = list.get(list.size() - 1);
            last[1] = i;
            last[2] += shots.get(i)[0];
        }
        return list;
    }

    int stretches() {
        return all().size();
    }

    int stretch(int s, int what) {
        if (s < 0 || s >= all().size() || what < 0 || what > 3) {
            return BAD;
        }
        return all().get(s)[what];
    }

    int tenths(int s, int speed) {
        if (s < -1 || s >= all().size() || speed < 12 || speed > 30) {
            return BAD;
        }
        return (s == -1 ? count(1) : all().get(s)[2]) * 10 / speed;
    }

    int piece(int what, int beats, int theme, int fee) {
        if (what < 0 || what / 100 > 11 || what % 100 < 1 || what % 100 > 63) {
            return BAD;
        }
        if (beats < 0 || beats / 1000 < 30 || beats / 1000 > 240) {
            return BAD;
        }
        if (beats % 1000 < 30 || beats % 1000 > 240 || beats / 1000 > beats % 1000) {
            return BAD;
        }
        if (theme < 0 || theme > 1 || fee < 0 || fee > 999) {
            return BAD;
        }
        if (pieces.size() == 12) {
            return FULL;
        }
        Piece p = new Piece();
        p.key = what / 100;
        p.moods = what % 100;
        p.slow = beats / 1000;
        p.fast = beats % 1000;
        p.theme = theme == 1;
        p.fee = fee;
        pieces.add(p);
        p.rebuild();
        return pieces.size() - 1;
    }

    private boolean none(int piece) {
        return piece < 0 || piece >= pieces.size();
    }

    int block(int piece, int beats, int how, int next) {
        if (none(piece) || beats < 1 || beats > 64 || how < 0 || how > 3) {
            return BAD;
        }
        if (next < 0 || next > 255) {
            return BAD;
        }
        Piece p = pieces.get(piece);
        if (p.blocks.size() == 8) {
            return FULL;
        }
        Block b = new Block();
        b.beats = beats;
        b.entry = how / 2 == 1;
        b.exit = how % 2 == 1;
        b.next = next;
        p.blocks.add(b);
        p.rebuild();
        return p.blocks.size() - 1;
    }

    int way(int piece, int b) {
        if (none(piece) || b < 1 || b > 400) {
            return BAD;
        }
        List<Integer> way = pieces.get(piece).ways.get(b);
        return way == null ? NOT : way.size();
    }

    int along(int piece, int b, int i) {
        int n = way(piece, b);
        return n < 0 || i < 0 || i >= n ? BAD : pieces.get(piece).ways.get(b).get(i);
    }

    int misfit(int piece, int b, int t) {
        if (none(piece) || b < 1 || b > 400 || t < 0 || t > 100000) {
            return BAD;
        }
        return pieces.get(piece).misfit(b, t);
    }

    int best(int piece, int t) {
        return none(piece) || t < 0 || t > 100000 ? BAD : pieces.get(piece).best(t);
    }

    int step(int a, int b) {
        if (a < 0 || a > 11 || b < 0 || b > 11) {
            return BAD;
        }
        int fifths = 0;
        while ((a + 7 * fifths) % 12 != b && (b + 7 * fifths) % 12 != a) {
            fifths++;
        }
        return fifths;
    }

    int rule(int what, int v) {
        int was = what == 0 ? weight : most;
        if (what < 0 || what > 1 || v < 0 || v > (what == 0 ? 99 : 6)) {
            return BAD;
        }
        if (what == 0) {
            weight = v;
        } else {
            most = v;
        }
        return was;
    }

    private int[] leastPicks;
    private int leastCost;

    int programme(int speed) {
        if (speed < 12 || speed > 30) {
            return BAD;
        }
        List<int[]> list = all();
        if (list.size() > 8) {
            return BIG;
        }
        leastPicks = null;
        if (list.isEmpty()) {
            return NOT;
        }
        int[][] misfits = new int[list.size()][pieces.size()];
        for (int s = 0; s < list.size(); s++) {
            for (int p = 0; p < pieces.size(); p++) {
                Piece piece = pieces.get(p);
                int t = list.get(s)[2] * 10 / speed;
                boolean mood = (piece.moods & (1 << list.get(s)[3])) != 0;
                int b = mood ? piece.best(t) : NOT;
                misfits[s][p] = b == NOT ? -1 : piece.misfit(b, t);
            }
        }
        tryAll(misfits, new int[list.size()], 0, 0);
        if (leastPicks == null) {
            return NOT;
        }
        found = new ArrayList<>();
        for (int s = 0; s < list.size(); s++) {
            Given g = new Given();
            g.piece = leastPicks[s];
            g.tenths = list.get(s)[2] * 10 / speed;
            g.beats = pieces.get(g.piece).best(g.tenths);
            g.misfit = pieces.get(g.piece).misfit(g.beats, g.tenths);
            g.step = s + 1 == list.size() ? 0
                : step(pieces.get(g.piece).key, pieces.get(leastPicks[s + 1]).key);
            g.way = pieces.get(g.piece).ways.get(g.beats);
            found.add(g);
        }
        return leastCost;
    }

    private void tryAll(int[][] misfits, int[] picks, int s, int cost) {
        if (s == picks.length) {
            if (leastPicks == null || cost < leastCost) {
                leastPicks = picks.clone();
                leastCost = cost;
            }
            return;
        }
        for (int p = 0; p < pieces.size(); p++) {
            boolean can = misfits[s][p] >= 0;
            for (int r = 0; r < s; r++) {
                can &= picks[r] != p || pieces.get(p).theme;
            }
            int steps = s == 0 ? 0 : step(pieces.get(picks[s - 1]).key, pieces.get(p).key);
            if (can && steps <= most) {
                picks[s] = p;
                tryAll(misfits, picks, s + 1, cost + misfits[s][p] + steps * weight);
            }
        }
    }

    int given(int s, int what) {
        if (found == null || s < 0 || s >= found.size()) {
            return BAD;
        }
        Given g = found.get(s);
        return what == 0 ? g.piece : what == 1 ? g.beats : what == 2 ? g.misfit
            : what == 3 ? g.step : BAD;
    }

    int begin() {
        if (found == null) {
            return NOT;
        }
        sheet = found;
        clock = 0;
        at = -1;
        vamps = 0;
        late = 0;
        ended = false;
        broken = false;
        seenAt.clear();
        enterNext();
        return sheet.size();
    }

    private void enterNext() {
        at++;
        t0 = clock;
        index = 0;
        repeats = 0;
        pieces.get(sheet.get(at).piece).played++;
    }

    private int done() {
        Given g = sheet.get(at);
        Piece p = pieces.get(g.piece);
        int low = 600 * g.beats / p.fast;
        int high = 600 * g.beats / p.slow;
        int span = g.tenths < low ? low : g.tenths > high ? high : g.tenths;
        return (clock - t0) * g.beats / span;
    }

    private boolean blockHasEnded() {
        Given g = sheet.get(at);
        List<Block> blocks = pieces.get(g.piece).blocks;
        int end = repeats * blocks.get(g.way.get(index)).beats;
        for (int i = 0; i <= index; i++) {
            end += blocks.get(g.way.get(i)).beats;
        }
        return done() >= end;
    }

    int go(int n) {
        if (n < 1 || n > 600) {
            return BAD;
        }
        if (sheet == null || ended) {
            return NOT;
        }
        for (int i = 0; i < n && !ended; i++) {
            clock++;
            while (!ended && blockHasEnded()) {
                Given g = sheet.get(at);
                boolean exit = pieces.get(g.piece).blocks.get(g.way.get(index)).exit;
                boolean last = at == sheet.size() - 1;
                if (!last && seenAt.size() >= at + 1 && exit) {
                    late += clock - seenAt.get(at);
                    enterNext();
                } else if (index < g.way.size() - 1) {
                    index++;
                } else if (last) {
                    ended = true;
                } else {
                    repeats++;
                    vamps++;
                }
            }
        }
        return clock;
    }

    int seen() {
        if (sheet == null || ended || broken || seenAt.size() == sheet.size() - 1) {
            return NOT;
        }
        seenAt.add(clock);
        return seenAt.size();
    }

    int reel(int is) {
        if (is < 0 || is > 1) {
            return BAD;
        }
        if (sheet == null) {
            return NOT;
        }
        int was = broken ? 1 : 0;
        broken = is == 1;
        return was;
    }

    int now(int what) {
        if (sheet == null || what < 0 || what > 8) {
            return BAD;
        }
        Given g = sheet.get(at);
        int[] all = {at, g.way.get(index), g.piece, vamps, late, clock, ended ? 1 : 0,
            seenAt.size(), done()};
        return all[what];
    }

    int played(int piece) {
        return none(piece) ? BAD : pieces.get(piece).played;
    }

    int fees() {
        int sum = 0;
        for (Piece p : pieces) {
            sum += p.fee * p.played;
        }
        return sum;
    }

    int effect(int from, int to, int needed) {
        if (from < 0 || from > 99999 || to <= from || to > 100000 || needed < 1 || needed > 4) {
            return BAD;
        }
        if (effects.size() == 30) {
            return FULL;
        }
        effects.add(new int[] {from, to, needed});
        return effects.size() - 1;
    }

    int hands(int n) {
        if (n < 0 || n > 4) {
            return BAD;
        }
        int was = hands;
        hands = n;
        return was;
    }

    int free(int tenth) {
        return tenth < 0 || tenth > 99999 ? -99 : freeWithout(tenth, new ArrayList<>());
    }

    private int freeWithout(int tenth, List<Integer> out) {
        int rest = hands;
        for (int i = 0; i < effects.size(); i++) {
            int[] e = effects.get(i);
            if (!out.contains(i) && e[0] <= tenth && tenth < e[1]) {
                rest -= e[2];
            }
        }
        return rest;
    }

    int clash() {
        return firstClash(new ArrayList<>());
    }

    /** Every tenth that can matter, one by one: from the earliest beginning to the last end. */
    private int firstClash(List<Integer> out) {
        int[] uses = new int[100001];
        for (int i = 0; i < effects.size(); i++) {
            if (!out.contains(i)) {
                uses[effects.get(i)[0]] += effects.get(i)[2];
                uses[effects.get(i)[1]] -= effects.get(i)[2];
            }
        }
        int sum = 0;
        for (int t = 0; t < 100000; t++) {
            sum += uses[t];
            if (sum > hands) {
                return t;
            }
        }
        return NOT;
    }

    int left() {
        if (effects.size() > 12) {
            return BIG;
        }
        for (int size = 0; size <= effects.size(); size++) {
            int set = firstSet(size, 0, new ArrayList<>());
            if (set >= 0) {
                return set;
            }
        }
        return 0;
    }

    private int firstSet(int size, int from, List<Integer> out) {
        if (out.size() == size) {
            boolean fits = true;
            for (int[] e : effects) {
                fits &= freeWithout(e[0], out) >= 0 && freeWithout(e[1] - 1, out) >= 0;
            }
            int bits = 0;
            for (int i : out) {
                bits |= 1 << i;
            }
            return fits ? bits : -1;
        }
        for (int i = from; i < effects.size(); i++) {
            out.add(i);
            int set = firstSet(size, i + 1, out);
            out.remove(out.size() - 1);
            if (set >= 0) {
                return set;
            }
        }
        return -1;
    }

    int count(int what) {
        int frames = 0;
        for (int[] s : shots) {
            frames += s[0];
        }
        int blocks = 0;
        int plays = 0;
        for (Piece p : pieces) {
            blocks += p.blocks.size();
            plays += p.played;
        }
        int[] all = {shots.size(), frames, pieces.size(), blocks, effects.size(), plays};
        return what < 0 || what > 5 ? BAD : all[what];
    }
}
