import java.util.ArrayList;
import java.util.List;
import java.util.function.Supplier;
import java.util.function.ToIntFunction;

/**
 * "What is answered so changes nothing": each call that is refused is made on an object of its own,
 * in each of several states, and then all that can be asked is asked of this object and of a twin
 * that was spared the call. No object sees more than 512 calls.
 */
public final class RefusalTest {
    private static final int BAD = ShadowBand.BAD;
    private static final int NOT = ShadowBand.NOT;
    private static final int FULL = ShadowBand.FULL;
    private static final int BIG = ShadowBand.BIG;

    private record Refusal(String name, int due, ToIntFunction<ShadowBand> call) {
    }

    private final Check c;
    private final List<Refusal> refusals = new ArrayList<>();

    private RefusalTest(Check c) {
        this.c = c;
    }

    public static void main(String[] args) {
        Check c = new Check();
        nothingYet(new RefusalTest(c));
        noWayAndNoProgramme(new RefusalTest(c));
        inTheNight(new RefusalTest(c));
        brokenOrAllSeen(new RefusalTest(c));
        behindTheEnd(new RefusalTest(c));
        allFull(new RefusalTest(c));
        c.end();
    }

    private void add(String name, int due, ToIntFunction<ShadowBand> call) {
        refusals.add(new Refusal(name, due, call));
    }

    private void hold(String state, Supplier<ShadowBand> make) {
        ShadowBand spared = make.get();
        String due = all(spared);
        for (Refusal r : refusals) {
            ShadowBand x = make.get();
            c.due(state + ", " + r.name, r.call.applyAsInt(x), r.due);
            String got = all(x);
            c.hold(state + ", " + r.name + " changes nothing:\n" + got + "\n" + due,
                got.equals(due));
        }
    }

    private static void nothingYet(RefusalTest t) {
        t.addBad();
        t.addNoNight();
        t.add("no shots for a programme", NOT, x -> x.programme(12));
        t.add("no programme to begin", NOT, x -> x.begin());
        t.add("no piece for a block", BAD, x -> x.block(0, 1, 3, 0));
        t.add("no clash", NOT, x -> x.clash());
        t.hold("new", ShadowBand::new);
    }

    private static void noWayAndNoProgramme(RefusalTest t) {
        t.addBad();
        t.addNoNight();
        t.add("no way", NOT, x -> x.way(0, 3));
        t.add("no way along", BAD, x -> x.along(0, 3, 0));
        t.add("no best", NOT, x -> x.best(0, 3));
        t.add("no programme", NOT, x -> x.programme(12));
        t.add("none to begin", NOT, x -> x.begin());
        t.add("none given", BAD, x -> x.given(0, 0));
        t.add("shot 3", BAD, x -> x.cue(3, 1));
        t.add("piece 1", BAD, x -> x.block(1, 1, 3, 0));
        t.hold("without a way", RefusalTest::withoutAWay);
    }

    private static void inTheNight(RefusalTest t) {
        t.addBad();
        t.add("too long", BAD, x -> x.go(601));
        t.add("no programme for the mood", NOT, x -> x.programme(12));
        t.hold("in the night", RefusalTest::night);
        t.refusals.clear();
        t.add("nine stretches", BIG, x -> x.programme(12));
        t.hold("nine stretches in the night", RefusalTest::nightUnderNine);
    }

    private static void brokenOrAllSeen(RefusalTest t) {
        t.addBad();
        t.add("not seen", NOT, x -> x.seen());
        t.hold("broken", () -> {
            ShadowBand x = night();
            x.reel(1);
            return x;
        });
        t.hold("all seen", () -> {
            ShadowBand x = night();
            x.seen();
            return x;
        });
    }

    private static void behindTheEnd(RefusalTest t) {
        t.addBad();
        t.add("no more to see", NOT, x -> x.seen());
        t.add("no more tenth", NOT, x -> x.go(1));
        t.add("no more tenths", NOT, x -> x.go(600));
        t.hold("ended", () -> {
            ShadowBand x = night();
            x.seen();
            x.go(600);
            return x;
        });
    }

    private static void allFull(RefusalTest t) {
        t.addBad();
        t.addNoNight();
        t.add("shot 60", FULL, x -> x.shot(1, 0));
        t.add("piece 12", FULL, x -> x.piece(1, 60060, 0, 0));
        t.add("block 8 of the first", FULL, x -> x.block(0, 1, 3, 255));
        t.add("block 8 of the last", FULL, x -> x.block(11, 1, 3, 255));
        t.add("effect 30", FULL, x -> x.effect(0, 1, 1));
        t.add("sixty stretches", BIG, x -> x.programme(12));
        t.add("thirty effects to leave out", BIG, x -> x.left());
        t.add("none to begin", NOT, x -> x.begin());
        t.hold("full", Bands::full);
    }

    private void addNoNight() {
        add("no night to go", NOT, x -> x.go(1));
        add("no cue to see", NOT, x -> x.seen());
        add("no reel to break", NOT, x -> x.reel(1));
        add("no reel to mend", NOT, x -> x.reel(0));
        add("no night to ask", BAD, x -> x.now(0));
    }

    /** What is BAD in any state. */
    private void addBad() {
        addBadOfFilm();
        addBadOfPieces();
        addBadOfProgrammes();
        addBadOfEffects();
    }

    private void addBadOfFilm() {
        add("frames 0", BAD, x -> x.shot(0, 0));
        add("frames 2001", BAD, x -> x.shot(2001, 0));
        add("mood -1", BAD, x -> x.shot(1, -1));
        add("mood 6", BAD, x -> x.shot(1, 6));
        add("cue 0 away", BAD, x -> x.cue(0, 0));
        add("cue 0", BAD, x -> x.cue(0, 1));
        add("cue -1", BAD, x -> x.cue(-1, 1));
        add("cue 60", BAD, x -> x.cue(60, 1));
        add("cue is 2", BAD, x -> x.cue(1, 2));
        add("cue is -1", BAD, x -> x.cue(1, -1));
        add("stretch -1", BAD, x -> x.stretch(-1, 0));
        add("stretch 60", BAD, x -> x.stretch(60, 0));
        add("stretch what 4", BAD, x -> x.stretch(0, 4));
        add("tenths of -2", BAD, x -> x.tenths(-2, 12));
        add("tenths of 60", BAD, x -> x.tenths(60, 12));
        add("tenths at 11", BAD, x -> x.tenths(-1, 11));
        add("tenths at 31", BAD, x -> x.tenths(-1, 31));
    }

    private void addBadOfPieces() {
        add("no moods", BAD, x -> x.piece(100, 60060, 0, 0));
        add("moods 64", BAD, x -> x.piece(64, 60060, 0, 0));
        add("key 12", BAD, x -> x.piece(1201, 60060, 0, 0));
        add("slow 29", BAD, x -> x.piece(1, 29060, 0, 0));
        add("fast 241", BAD, x -> x.piece(1, 60241, 0, 0));
        add("slow above fast", BAD, x -> x.piece(1, 61060, 0, 0));
        add("theme 2", BAD, x -> x.piece(1, 60060, 2, 0));
        add("fee 1000", BAD, x -> x.piece(1, 60060, 0, 1000));
        add("block of -1", BAD, x -> x.block(-1, 1, 3, 0));
        add("block of 12", BAD, x -> x.block(12, 1, 3, 0));
        add("block of no beats", BAD, x -> x.block(0, 0, 3, 0));
        add("block of 65 beats", BAD, x -> x.block(0, 65, 3, 0));
        add("block how 4", BAD, x -> x.block(0, 1, 4, 0));
        add("block how -1", BAD, x -> x.block(0, 1, -1, 0));
        add("block next 256", BAD, x -> x.block(0, 1, 3, 256));
        add("block next -1", BAD, x -> x.block(0, 1, 3, -1));
        add("way of 0", BAD, x -> x.way(0, 0));
        add("way of 401", BAD, x -> x.way(0, 401));
        add("along 0", BAD, x -> x.along(0, 0, 0));
        add("misfit for -1", BAD, x -> x.misfit(0, 1, -1));
        add("misfit for 100001", BAD, x -> x.misfit(0, 1, 100001));
        add("best for -1", BAD, x -> x.best(0, -1));
        add("best for 100001", BAD, x -> x.best(0, 100001));
    }

    private void addBadOfProgrammes() {
        add("step 12", BAD, x -> x.step(12, 0));
        add("step -1", BAD, x -> x.step(0, -1));
        add("weight 100", BAD, x -> x.rule(0, 100));
        add("weight -1", BAD, x -> x.rule(0, -1));
        add("most 7", BAD, x -> x.rule(1, 7));
        add("most -1", BAD, x -> x.rule(1, -1));
        add("rule 2", BAD, x -> x.rule(2, 1));
        add("rule -1", BAD, x -> x.rule(-1, 1));
        add("programme at 11", BAD, x -> x.programme(11));
        add("programme at 31", BAD, x -> x.programme(31));
        add("given -1", BAD, x -> x.given(-1, 0));
        add("given 8", BAD, x -> x.given(8, 0));
        add("given what 4", BAD, x -> x.given(0, 4));
        add("go 0", BAD, x -> x.go(0));
        add("go -1", BAD, x -> x.go(-1));
        add("go 601", BAD, x -> x.go(601));
        add("reel 2", BAD, x -> x.reel(2));
        add("reel -1", BAD, x -> x.reel(-1));
        add("now -1", BAD, x -> x.now(-1));
        add("now 9", BAD, x -> x.now(9));
        add("played -1", BAD, x -> x.played(-1));
        add("played 12", BAD, x -> x.played(12));
    }

    private void addBadOfEffects() {
        add("from -1", BAD, x -> x.effect(-1, 5, 1));
        add("from as to", BAD, x -> x.effect(5, 5, 1));
        add("to 100001", BAD, x -> x.effect(5, 100001, 1));
        add("effect of no hands", BAD, x -> x.effect(5, 6, 0));
        add("effect of five hands", BAD, x -> x.effect(5, 6, 5));
        add("hands -1", BAD, x -> x.hands(-1));
        add("hands 5", BAD, x -> x.hands(5));
        add("free -1", -99, x -> x.free(-1));
        add("free 100000", -99, x -> x.free(100000));
        add("count -1", BAD, x -> x.count(-1));
        add("count 6", BAD, x -> x.count(6));
    }

    private static ShadowBand withoutAWay() {
        ShadowBand x = Bands.stretches(3);
        x.piece(1, 60060, 0, 0);
        x.block(0, 3, 2, 0);
        x.rule(0, 7);
        x.rule(1, 2);
        x.hands(3);
        x.effect(1, 5, 2);
        return x;
    }

    /** In the second of three stretches; a fourth one has a mood of which there is no piece. */
    private static ShadowBand night() {
        ShadowBand x = Bands.film(60, 70, 80);
        x.piece(701, 60120, 1, 5);
        x.block(0, 2, 2, 2);
        x.block(0, 3, 1, 3);
        x.piece(201, 90100, 0, 11);
        x.block(1, 8, 3, 1);
        x.rule(0, 3);
        x.rule(1, 5);
        x.programme(13);
        x.begin();
        x.go(20);
        x.seen();
        x.go(70);
        x.hands(1);
        x.effect(3, 9, 1);
        x.effect(5, 7, 2);
        x.shot(10, 5);
        x.cue(3, 1);
        return x;
    }

    private static ShadowBand nightUnderNine() {
        ShadowBand x = night();
        for (int i = 4; i < 9; i++) {
            x.shot(10, 0);
            x.cue(i, 1);
        }
        return x;
    }

    /** All that can be asked, and then what more calls answer. */
    private static String all(ShadowBand x) {
        StringBuilder text = new StringBuilder();
        filmAndPieces(x, text);
        programmeAndNight(x, text);
        effects(x, text);
        whatWasTold(x, text);
        whatComesNext(x, text);
        return text.toString();
    }

    private static void put(StringBuilder text, int answer) {
        text.append(' ').append(answer);
    }

    private static void filmAndPieces(ShadowBand x, StringBuilder text) {
        text.append("film");
        put(text, x.stretches());
        int[] stretches = {0, 1, 2, 8, 59};
        for (int s : stretches) {
            for (int what = 0; what <= 3; what++) {
                put(text, x.stretch(s, what));
            }
        }
        put(text, x.tenths(-1, 12));
        for (int what = 0; what <= 5; what++) {
            put(text, x.count(what));
        }
        text.append("; pieces");
        int[] pieces = {0, 1, 11};
        for (int p : pieces) {
            for (int b = 1; b <= 20; b++) {
                put(text, x.way(p, b));
            }
            put(text, x.along(p, 8, 1));
            put(text, x.best(p, 50));
            put(text, x.best(p, 3000));
            put(text, x.misfit(p, 10, 0));
            put(text, x.played(p));
        }
    }

    private static void programmeAndNight(ShadowBand x, StringBuilder text) {
        text.append("; programme");
        for (int s = 0; s <= 3; s++) {
            for (int what = 0; what <= 3; what++) {
                put(text, x.given(s, what));
            }
        }
        nows(x, text);
        put(text, x.fees());
    }

    private static void nows(ShadowBand x, StringBuilder text) {
        text.append("; now");
        for (int what = 0; what <= 8; what++) {
            put(text, x.now(what));
        }
    }

    private static void effects(ShadowBand x, StringBuilder text) {
        text.append("; effects");
        int[] tenths = {0, 1, 5, 7, 60, 300, 99999};
        for (int t : tenths) {
            put(text, x.free(t));
        }
        put(text, x.clash());
        put(text, x.left());
    }

    /** These are answered only where they are told anew. */
    private static void whatWasTold(ShadowBand x, StringBuilder text) {
        text.append("; told");
        put(text, x.rule(0, 2));
        put(text, x.rule(1, 6));
        put(text, x.hands(2));
        put(text, x.reel(0));
        put(text, x.cue(1, 1));
    }

    private static void whatComesNext(ShadowBand x, StringBuilder text) {
        text.append("; next");
        put(text, x.seen());
        put(text, x.go(37));
        nows(x, text);
        put(text, x.shot(30, 0));
        put(text, x.effect(3, 4, 1));
        put(text, x.piece(33, 60060, 1, 3));
        int piece = x.count(2) - 1;
        put(text, x.block(piece, 2, 3, 1));
        put(text, x.way(piece, 8));
        put(text, x.programme(20));
        put(text, x.given(0, 0));
        put(text, x.given(0, 2));
        put(text, x.begin());
        put(text, x.go(600));
        nows(x, text);
    }
}
