/**
 * Long runs of calls, each answer against SlowBand's. The runs come from a fixed row of numbers,
 * so they are the same each time.
 */
public final class ModelTest {
    private static final int RUNS = 1000;
    /** No more is promised of one object. */
    private static final int CALLS = 512;
    /** As many of them as one turn of a run may make. */
    private static final int CALLS_OF_A_TURN = 5;
    private static final int[] EDGES = {-1, 0, 1, 2, 12, 13, 100, 400, 401, 600, 601, 100000,
        Integer.MAX_VALUE, Integer.MIN_VALUE};

    private long state;
    private final Check c;
    private ShadowBand x;
    private SlowBand y;
    private int run;
    private int calls;
    /** How many stretches, pieces the run aims at: few of both keep the trial of all short. */
    private int fewStretches;
    private int fewPieces;
    private final int[] answers = new int[27];

    private ModelTest(Check c) {
        this.c = c;
    }

    public static void main(String[] args) {
        Check c = new Check();
        ModelTest t = new ModelTest(c);
        for (int run = 0; run < RUNS && c.isClean(); run++) {
            t.play(run);
        }
        for (int call = 0; call < t.answers.length; call++) {
            c.hold("call " + call + " had " + t.answers[call] + " good answers",
                t.answers[call] > RUNS);
        }
        c.end();
    }

    /** 0 up to less than n. */
    private int any(int n) {
        state = state * 6364136223846793005L + 1442695040888963407L;
        return (int) ((state >>> 33) % n);
    }

    private int pick(int low, int high) {
        return any(150) == 0 ? EDGES[any(EDGES.length)] : low + any(high - low + 1);
    }

    private void play(int number) {
        run = number;
        state = number * 7919L + 17;
        x = new ShadowBand();
        y = new SlowBand();
        fewStretches = 1 + any(9);
        fewPieces = fewStretches > 6 ? 1 + any(5) : 1 + any(7);
        calls = 0;
        for (int i = 0; calls + CALLS_OF_A_TURN <= CALLS && c.isClean(); i++) {
            call(i < 60 ? buildingCall() : anyCall());
        }
    }

    private int buildingCall() {
        int[] often = {0, 0, 0, 1, 6, 6, 7, 7, 7, 7, 7, 13, 21};
        return often[any(often.length)];
    }

    private int anyCall() {
        int[] often = {12, 14, 14, 15, 15, 16, 17, 17, 17, 17, 17, 17, 18, 18, 18, 18, 20, 20, 20,
            20, 20, 24};
        return any(3) == 0 ? any(27) : often[any(often.length)];
    }

    private void due(int call, String name, int got, int want, int... args) {
        calls++;
        if (got >= 0) {
            answers[call]++;
        }
        StringBuilder text = new StringBuilder("run " + run + ": " + name + "(");
        if (got != want) {
            for (int i = 0; i < args.length; i++) {
                text.append(i == 0 ? "" : ", ").append(args[i]);
            }
        }
        c.due(text.append(")").toString(), got, want);
    }

    private void call(int which) {
        if (which < 6) {
            filmCall(which);
        } else if (which < 12) {
            pieceCall(which);
        } else if (which < 16) {
            programmeCall(which);
        } else if (which < 21) {
            nightCall(which);
        } else {
            effectCall(which);
        }
    }

    private void filmCall(int which) {
        int a = pick(0, fewStretches);
        int b = pick(0, 3);
        if (which == 0) {
            a = pick(1, any(4) == 0 ? 2000 : 300);
            b = pick(0, any(2) == 0 ? 5 : 1);
            due(0, "shot", x.shot(a, b), y.shot(a, b), a, b);
        } else if (which == 1) {
            // Cues beyond what the run aims at are mostly taken back.
            b = y.stretches() < fewStretches ? pick(0, 3) > 0 ? 1 : 0 : pick(0, 9) > 8 ? 1 : 0;
            a = pick(0, 12);
            due(1, "cue", x.cue(a, b), y.cue(a, b), a, b);
        } else if (which == 2) {
            due(2, "stretches", x.stretches(), y.stretches());
        } else if (which == 3) {
            due(3, "stretch", x.stretch(a, b), y.stretch(a, b), a, b);
        } else if (which == 4) {
            a = pick(-1, fewStretches);
            b = pick(12, 30);
            due(4, "tenths", x.tenths(a, b), y.tenths(a, b), a, b);
        } else {
            due(5, "count", x.count(b), y.count(b), b);
        }
    }

    private void pieceCall(int which) {
        int p = pick(0, fewPieces - 1);
        int b = any(2) == 0 ? pick(1, 400) : pick(1, 40);
        if (which == 6) {
            if (y.count(2) >= fewPieces && any(20) > 0) {
                return;
            }
            int what = 100 * pick(0, 11) + (any(2) == 0 ? 3 + 4 * any(16) : pick(1, 63));
            int slow = pick(30, 240);
            int beats = 1000 * slow + Math.max(slow, 30) + any(any(3) == 0 ? 240 : 20);
            int theme = pick(0, 1);
            int fee = pick(0, 999);
            due(6, "piece", x.piece(what, beats, theme, fee), y.piece(what, beats, theme, fee),
                what, beats, theme, fee);
        } else if (which == 7) {
            int beats = any(3) == 0 ? pick(1, 64) : pick(1, 9);
            int how = any(2) == 0 ? 3 : pick(0, 3);
            int next = any(2) == 0 ? pick(0, 255) : pick(0, 255) & any(256);
            due(7, "block", x.block(p, beats, how, next), y.block(p, beats, how, next),
                p, beats, how, next);
        } else if (which == 8) {
            due(8, "way", x.way(p, b), y.way(p, b), p, b);
        } else if (which == 9) {
            int length = Math.max(0, y.way(p, b));
            for (int n = 0; n < 4; n++) {
                int i = pick(-1, length);
                due(9, "along", x.along(p, b, i), y.along(p, b, i), p, b, i);
            }
        } else if (which == 10) {
            int t = pick(0, any(3) == 0 ? 100000 : 1000);
            due(10, "misfit", x.misfit(p, b, t), y.misfit(p, b, t), p, b, t);
        } else {
            int t = pick(0, any(3) == 0 ? 100000 : 1000);
            due(11, "best", x.best(p, t), y.best(p, t), p, t);
        }
    }

    private void programmeCall(int which) {
        int a = pick(0, 11);
        int b = pick(0, 11);
        if (which == 12) {
            due(12, "step", x.step(a, b), y.step(a, b), a, b);
        } else if (which == 13) {
            a = pick(0, 1);
            b = a == 0 ? pick(0, any(2) == 0 ? 5 : 99) : pick(any(3), 6);
            due(13, "rule", x.rule(a, b), y.rule(a, b), a, b);
        } else if (which == 14) {
            a = pick(12, 30);
            due(14, "programme", x.programme(a), y.programme(a), a);
        } else {
            for (int n = 0; n < 4; n++) {
                int s = pick(0, fewStretches);
                due(15, "given", x.given(s, n), y.given(s, n), s, n);
            }
            due(15, "given", x.given(a, b), y.given(a, b), a, b);
        }
    }

    private void nightCall(int which) {
        if (which == 16) {
            if (any(3) == 0) {
                due(16, "begin", x.begin(), y.begin());
            }
        } else if (which == 17) {
            int n = any(4) == 0 ? pick(1, 600) : pick(1, 60);
            due(17, "go", x.go(n), y.go(n), n);
        } else if (which == 18) {
            due(18, "seen", x.seen(), y.seen());
        } else if (which == 19) {
            int is = pick(0, 1);
            due(19, "reel", x.reel(is), y.reel(is), is);
        } else {
            for (int n = 0; n < 3; n++) {
                int what = 3 * n + any(3);
                due(20, "now", x.now(what), y.now(what), what);
            }
            int p = pick(0, fewPieces);
            due(20, "played", x.played(p), y.played(p), p);
            due(20, "fees", x.fees(), y.fees());
        }
    }

    private void effectCall(int which) {
        if (which == 21) {
            int from = any(9) == 0 ? pick(0, 99999) : pick(0, 30);
            int to = any(9) == 0 ? pick(from, 100000) : from + pick(0, 9);
            int hands = any(4) == 0 ? pick(0, 5) : 1;
            due(21, "effect", x.effect(from, to, hands), y.effect(from, to, hands),
                from, to, hands);
        } else if (which == 22) {
            int n = pick(0, 4);
            due(22, "hands", x.hands(n), y.hands(n), n);
        } else if (which == 23) {
            int t = pick(0, 40);
            due(23, "free", x.free(t), y.free(t), t);
        } else if (which == 24) {
            due(24, "clash", x.clash(), y.clash());
        } else if (which == 25) {
            due(25, "left", x.left(), y.left());
        } else {
            int what = pick(0, 5);
            due(26, "count", x.count(what), y.count(what), what);
        }
    }
}
