/** The edges of promises 6, 7, 8 and 10, each in a part of its own: source, tell, stick, undo. */
final class EdgesOfChangeTest {
    private static final Check CHECK = new Check("EdgesOfChangeTest");
    private static final Twins TWINS = new Twins(CHECK);
    private static final int BAD = TapCascade.BAD, NO = TapCascade.NO;
    private static final int MIN = Integer.MIN_VALUE, MAX = Integer.MAX_VALUE;
    private static final String STAGE = "s1,1000,1,1,0,0,0;";
    private static final int LOAD = 0, TAP = 1, WAIT = 2;
    private static final String[] NAMES = {"LOAD", "TAP", "WAIT"};
    private static final int[] LEAST = {950, 995, 1};
    private static final int[] MOST = {1050, 1005, 9};
    /** Where stage() tells what tell() takes. */
    private static final int[] ASKED = {5, 7, 3};

    public static void main(String[] args) {
        busyIsBusy();
        sourceLeast();
        sourceMost();
        sourceIsSo();
        for (int what = LOAD; what <= WAIT; what++) {
            tellLeast(what);
            tellMost(what);
            tellIsSo(what);
        }
        tellWithoutZero();
        tellWhat();
        tellStage();
        stickIs();
        stickIsSo();
        stickStage();
        stickNoneToAll();
        undoNothing();
        undoOne();
        undoSixOfSeven();
        undoBehindManyChanges();
        undoIsNoChange();
        undoBehindLay();
        undoEachKind();
        undoTicksOfOneCall();
        undoWhereNothingBecameAnother();
        whatIsNoChange();
        undoThatIsRefused();
        CHECK.end();
    }

    /** The state that refused calls are tried on has something of everything. */
    private static void busyIsBusy() {
        CHECK.of("the busy line of these tests");
        TapCascade x = Twins.busy();
        int[] due = {3, 900, 7, -1, -1, -1, 1, -1, 6, Twins.BUSY_TEXT.length()};
        for (int what = 0; what < due.length; what++) {
            if (due[what] >= 0) {
                CHECK.due("count(" + what + ")", x.count(what), due[what]);
            }
        }
        CHECK.holds("steps are done", x.count(3) > 0);
        CHECK.holds("it is not quiet", x.count(10) == 0);
        CHECK.holds("a count is under way", x.stage(0, 14) + x.stage(1, 14) + x.stage(2, 14) > 0);
    }

    // ---- promise 6

    private static void sourceLeast() {
        CHECK.of("6, the least SOURCE");
        TapCascade x = new TapCascade();
        CHECK.due("source(800)", x.source(800), 1010);
        CHECK.due("count(1)", x.count(1), 800);
        CHECK.stage(x, 0, 10, 1800);
        for (int v : new int[] {799, 0, -1, -800, MIN}) {
            TWINS.refused("source(" + v + ")", y -> y.source(v), BAD);
        }
    }

    private static void sourceMost() {
        CHECK.of("6, the most SOURCE");
        TapCascade x = new TapCascade();
        CHECK.due("source(1200)", x.source(1200), 1010);
        CHECK.due("count(1)", x.count(1), 1200);
        CHECK.stage(x, 0, 10, 2200);
        for (int v : new int[] {1201, 1800, 2010, MAX}) {
            TWINS.refused("source(" + v + ")", y -> y.source(v), BAD);
        }
    }

    private static void sourceIsSo() {
        CHECK.of("6, the SOURCE is so");
        TWINS.refusedOn(TapCascade::new, "source(1010)", x -> x.source(1010), NO);
        TWINS.refusedOn(Twins::busy, "source(900)", x -> x.source(900), NO);
        TapCascade x = new TapCascade();
        CHECK.due("source(1009)", x.source(1009), 1010);
        CHECK.due("source(1009) again", x.source(1009), NO);
        CHECK.due("source(1010)", x.source(1010), 1009);
        CHECK.due("count(8)", x.count(8), 2);
        for (int edge : new int[] {800, 1200}) {
            x.source(edge);
            CHECK.due("source(" + edge + ") again", x.source(edge), NO);
        }
    }

    // ---- promise 7

    private static void tellLeast(int what) {
        CHECK.of("7, the least " + NAMES[what]);
        for (int i = 0; i < 3; i++) {
            toldAt(i, what, LEAST[what]);
        }
        for (int v : new int[] {LEAST[what] - 1, -LEAST[what], -1, MIN}) {
            TWINS.refused("tell(2, " + what + ", " + v + ")", x -> x.tell(2, what, v), BAD);
        }
    }

    private static void tellMost(int what) {
        CHECK.of("7, the most " + NAMES[what]);
        for (int i = 0; i < 3; i++) {
            toldAt(i, what, MOST[what]);
        }
        for (int v : new int[] {MOST[what] + 1, MOST[what] + 1000, 2000, MAX}) {
            TWINS.refused("tell(2, " + what + ", " + v + ")", x -> x.tell(2, what, v), BAD);
        }
    }

    private static void toldAt(int i, int what, int v) {
        TapCascade x = new TapCascade();
        int was = x.stage(i, ASKED[what]);
        CHECK.due("tell(" + i + ", " + what + ", " + v + ")", x.tell(i, what, v), was);
        CHECK.stage(x, i, ASKED[what], v);
        CHECK.due("it is one change", x.count(8), 1);
        for (int k = 0; k < 3; k++) {
            if (k != what) {
                CHECK.stage(x, i, ASKED[k], new TapCascade().stage(i, ASKED[k]));
            }
        }
    }

    private static void tellIsSo(int what) {
        CHECK.of("7, the " + NAMES[what] + " is so");
        int[] first = {988, 1000, 5};
        TWINS.refusedOn(TapCascade::new, "tell of what it is", x -> x.tell(2, what, first[what]), NO);
        TWINS.refusedOn(Twins::busy, "tell of what it is", x -> x.tell(1, what, x.stage(1, ASKED[what])), NO);
        for (int edge : new int[] {LEAST[what], MOST[what]}) {
            TapCascade x = new TapCascade();
            x.tell(2, what, edge);
            CHECK.due("tell(2, " + what + ", " + edge + ") again", x.tell(2, what, edge), NO);
            CHECK.due("count(8)", x.count(8), 1);
            CHECK.due("tell back", x.tell(2, what, first[what]), edge);
        }
    }

    private static void tellWithoutZero() {
        CHECK.of("7, LOAD and TAP come with ZERO, WAIT without");
        for (int v : new int[] {-50, -5, 0, 5, 50}) {
            TWINS.refused("tell(0, 0, " + v + ")", x -> x.tell(0, LOAD, v), BAD);
            TWINS.refused("tell(0, 1, " + v + ")", x -> x.tell(0, TAP, v), BAD);
        }
        TWINS.refused("tell(0, 2, 1001)", x -> x.tell(0, WAIT, 1001), BAD);
        TWINS.refused("tell(0, 2, 1000)", x -> x.tell(0, WAIT, 1000), BAD);
    }

    private static void tellWhat() {
        CHECK.of("7, what is told");
        for (int what : new int[] {-1, 3, MIN, MAX}) {
            for (int v : new int[] {1000, 1001, 5}) {
                TWINS.refused("tell(0, " + what + ", " + v + ")", x -> x.tell(0, what, v), BAD);
            }
        }
    }

    private static void tellStage() {
        CHECK.of("7, stages such as there are");
        for (int size = 1; size <= 4; size++) {
            String text = STAGE.repeat(size);
            for (int what = LOAD; what <= WAIT; what++) {
                int w = what;
                int v = MOST[what];
                CHECK.holds("tell of the first", Check.laid(text).tell(0, what, v) >= 0);
                CHECK.holds("tell of the last", Check.laid(text).tell(size - 1, what, v) >= 0);
                for (int i : new int[] {-1, size, size + 1, MIN, MAX}) {
                    TWINS.refusedOn(() -> Check.laid(text), "tell(" + i + ", " + what + ", " + v + ") of " + size,
                            x -> x.tell(i, w, v), BAD);
                }
            }
        }
    }

    // ---- promise 8

    private static void stickIs() {
        CHECK.of("8, stuck or not");
        for (int is : new int[] {-1, 2, 1000, 1001, MIN, MAX}) {
            TWINS.refused("stick(0, " + is + ")", x -> x.stick(0, is), BAD);
            TWINS.refused("stick(2, " + is + ")", x -> x.stick(2, is), BAD);
        }
        TapCascade x = new TapCascade();
        CHECK.due("stick(0, 1)", x.stick(0, 1), 1);
        CHECK.stage(x, 0, 8, 1);
        CHECK.stage(x, 1, 8, 0);
        CHECK.due("stick(0, 0)", x.stick(0, 0), 0);
        CHECK.stage(x, 0, 8, 0);
    }

    private static void stickIsSo() {
        CHECK.of("8, it is so");
        TWINS.refusedOn(TapCascade::new, "stick(0, 0)", x -> x.stick(0, 0), NO);
        TWINS.refusedOn(TapCascade::new, "stick(3, 0)", x -> x.stick(3, 0), NO);
        TWINS.refusedOn(Twins::busy, "stick(2, 1)", x -> x.stick(2, 1), NO);
        TWINS.refusedOn(Twins::busy, "stick(0, 0)", x -> x.stick(0, 0), NO);
    }

    private static void stickStage() {
        CHECK.of("8, stages such as there are");
        for (int size = 1; size <= 4; size++) {
            String text = STAGE.repeat(size);
            CHECK.due("stick of the first", Check.laid(text).stick(0, 1), 1);
            CHECK.due("stick of the last", Check.laid(text).stick(size - 1, 1), 1);
            for (int i : new int[] {-1, size, MIN, MAX}) {
                TWINS.refusedOn(() -> Check.laid(text), "stick(" + i + ", 1) of " + size, x -> x.stick(i, 1), BAD);
                TWINS.refusedOn(() -> Check.laid(text), "stick(" + i + ", 0) of " + size, x -> x.stick(i, 0), BAD);
            }
        }
    }

    private static void stickNoneToAll() {
        CHECK.of("8, from none to all and back");
        TapCascade x = new TapCascade();
        for (int i = 0; i < 4; i++) {
            CHECK.due("stick(" + i + ", 1)", x.stick(i, 1), i + 1);
            CHECK.due("count(6)", x.count(6), i + 1);
        }
        for (int i = 0; i < 4; i++) {
            CHECK.due("stick(" + i + ", 0)", x.stick(i, 0), 3 - i);
            CHECK.due("count(6)", x.count(6), 3 - i);
        }
    }

    // ---- promise 10

    private static void undoNothing() {
        CHECK.of("10, nothing to undo");
        TWINS.refusedOn(TapCascade::new, "undo() of a new one", TapCascade::undo, NO);
        TWINS.refusedOn(() -> Check.laid(STAGE), "undo() of a laid one", TapCascade::undo, NO);
        TWINS.refusedOn(() -> undoneAll(Twins.busy()), "undo() of one that is undone", TapCascade::undo, NO);
    }

    private static TapCascade undoneAll(TapCascade x) {
        for (int k = 0; k < 6; k++) {
            x.undo();
        }
        return x;
    }

    private static void undoOne() {
        CHECK.of("10, one change");
        TapCascade x = new TapCascade();
        x.source(900);
        CHECK.due("undo()", x.undo(), 0);
        CHECK.due("count(1)", x.count(1), 1010);
        CHECK.due("undo()", x.undo(), NO);
        CHECK.due("count(1)", x.count(1), 1010);
    }

    private static void undoSixOfSeven() {
        CHECK.of("10, the sixth change and the seventh");
        for (int changes = 1; changes <= 8; changes++) {
            TapCascade x = new TapCascade();
            for (int k = 1; k <= changes; k++) {
                x.source(900 + k);
                CHECK.due("count(8) behind " + k, x.count(8), Math.min(k, 6));
            }
            int kept = Math.min(changes, 6);
            for (int k = 1; k <= kept; k++) {
                CHECK.due("undo() of " + changes, x.undo(), kept - k);
                CHECK.due("count(8)", x.count(8), kept - k);
                CHECK.due("count(1)", x.count(1), k == changes ? 1010 : 900 + changes - k);
            }
            CHECK.due("undo() of " + changes, x.undo(), NO);
            CHECK.due("count(1)", x.count(1), changes <= 6 ? 1010 : 900 + changes - 6);
        }
    }

    private static void undoBehindManyChanges() {
        CHECK.of("10, far more changes than are kept");
        TapCascade x = new TapCascade();
        for (int k = 1; k <= 100; k++) {
            CHECK.due("source", x.source(800 + k), k == 1 ? 1010 : 799 + k);
            if (k % 3 == 0) {
                CHECK.due("undo()", x.undo(), Math.min(k, 6) - 1);
                x.source(800 + k);
            }
        }
        for (int k = 1; k <= 6; k++) {
            CHECK.due("undo()", x.undo(), 6 - k);
            CHECK.due("count(1)", x.count(1), 900 - k);
        }
        CHECK.due("undo()", x.undo(), NO);
    }

    private static void undoIsNoChange() {
        CHECK.of("10, an undo can not be undone");
        TapCascade x = new TapCascade();
        x.source(901);
        x.source(902);
        x.source(903);
        CHECK.due("undo()", x.undo(), 2);
        CHECK.due("undo()", x.undo(), 1);
        CHECK.due("count(1)", x.count(1), 901);
        x.source(950);
        CHECK.due("undo()", x.undo(), 1);
        CHECK.due("count(1)", x.count(1), 901);
        CHECK.due("undo()", x.undo(), 0);
        CHECK.due("count(1)", x.count(1), 1010);
    }

    private static void undoBehindLay() {
        CHECK.of("10, behind LAID");
        TapCascade x = Twins.busy();
        CHECK.due("count(8)", x.count(8), 6);
        x.lay();
        CHECK.due("count(8)", x.count(8), 0);
        TWINS.refusedOn(() -> laidAnew(Twins.busy()), "undo()", TapCascade::undo, NO);
        for (int k = 1; k <= 7; k++) {
            x.source(800 + k);
            CHECK.due("count(8)", x.count(8), Math.min(k, 6));
        }
        TapCascade refused = Twins.spoilt();
        CHECK.due("lay() that is refused", refused.lay(), NO);
        CHECK.due("undo() behind it", refused.undo(), 5);
    }

    private static TapCascade laidAnew(TapCascade x) {
        x.lay();
        return x;
    }

    private static void undoEachKind() {
        CHECK.of("10, each kind of change");
        Twins.Call[] changes = {x -> x.source(1100), x -> x.tell(1, LOAD, 950), x -> x.tell(0, TAP, 995),
            x -> x.tell(0, WAIT, 9), x -> x.stick(0, 1), x -> x.stick(2, 0), x -> x.tick(1), x -> x.tick(50)};
        for (int k = 0; k < changes.length; k++) {
            Twins.Call change = changes[k];
            CHECK.holds("change " + k + " is taken", change.on(fiveLeft()) >= 0);
            TWINS.changesNothing(EdgesOfChangeTest::fiveLeft, "change " + k + " and undo()", x -> {
                change.on(x);
                return x.undo();
            });
        }
    }

    /** A busy one with room for one change more, so that none falls out. */
    private static TapCascade fiveLeft() {
        TapCascade x = Twins.busy();
        x.undo();
        return x;
    }

    private static void undoTicksOfOneCall() {
        CHECK.of("10, ticks of one call at once");
        TapCascade x = Check.laid("v1010;s50,1000,1,1,0,0,0;");
        CHECK.due("tick(50)", x.tick(50), 50);
        CHECK.due("tick(1)", x.tick(1), 1);
        CHECK.due("undo()", x.undo(), 1);
        CHECK.due("count(2)", x.count(2), 50);
        CHECK.due("undo()", x.undo(), 0);
        CHECK.due("count(2)", x.count(2), 0);
        CHECK.due("count(3)", x.count(3), 0);
        CHECK.due("count(4)", x.count(4), 0);
        CHECK.due("done(0, 0)", x.done(0, 0), TapCascade.NONE);
    }

    private static void undoWhereNothingBecameAnother() {
        CHECK.of("10, changes by which nothing becomes another");
        TapCascade x = new TapCascade();
        CHECK.due("count(10): it is quiet", x.count(10), 1);
        CHECK.due("tick(1)", x.tick(1), 0);
        CHECK.due("count(8)", x.count(8), 1);
        CHECK.due("undo()", x.undo(), 0);
        CHECK.due("count(2)", x.count(2), 0);
        x.source(1011);
        for (int k = 0; k < 6; k++) {
            x.tick(1);
        }
        CHECK.due("count(8)", x.count(8), 6);
        undoneAll(x);
        CHECK.due("the source fell out by them", x.count(1), 1011);
    }

    private static void whatIsNoChange() {
        CHECK.of("10, what is no change");
        TapCascade x = new TapCascade();
        x.source(900);
        x.write('v');
        x.wipe();
        x.fault();
        x.lay();
        x.settle(0);
        x.best(0);
        x.source(900);
        x.source(799);
        x.tell(0, TAP, 1000);
        x.tell(0, TAP, 994);
        x.stick(0, 0);
        x.stick(0, 2);
        x.tick(0);
        x.tick(51);
        CHECK.due("count(8)", x.count(8), 1);
        CHECK.due("undo()", x.undo(), 0);
        CHECK.due("count(1)", x.count(1), 1010);
    }

    private static void undoThatIsRefused() {
        CHECK.of("10, what is refused keeps the six");
        Twins.Call[] refused = {x -> x.source(900), x -> x.source(1201), x -> x.tell(0, WAIT, 10), x -> x.tell(1, TAP, 1002),
            x -> x.stick(2, 1), x -> x.stick(3, 1), x -> x.tick(51), x -> x.write(31)};
        for (int k = 0; k < refused.length; k++) {
            TapCascade x = Twins.busy();
            CHECK.holds("refused call " + k, refused[k].on(x) < 0);
            CHECK.due("count(8)", x.count(8), 6);
            for (int left = 5; left >= 0; left--) {
                CHECK.due("undo()", x.undo(), left);
            }
            CHECK.due("count(1)", x.count(1), 960);
            CHECK.due("count(2)", x.count(2), 5);
        }
    }
}
