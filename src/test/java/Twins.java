import java.util.ArrayList;
import java.util.List;

/**
 * "Nothing changes then": an object that was refused is held against a twin that was never asked, by all
 * that can be asked of both and by what comes of both later. Each object gets fewer than 512 calls.
 */
final class Twins {
    /** How an object comes to stand as it does. */
    interface Maker {
        TapCascade make();
    }

    interface Call {
        long on(TapCascade x);
    }

    private interface Later {
        void ask(TapCascade x, List<Long> answers);
    }

    static final String BUSY_TEXT = "v960;s50,1000,9,2,0,20,3;s20,990,5,3,2,-30,6;s10,1010,4,1,1,15,0;";

    private static final String[] LATER_NAMES = {"as it stands", "ticked on", "undone", "text"};
    private static final Later[] LATERS = {Twins::standing, Twins::tickedOn, Twins::undone, Twins::text};

    private final Check check;

    Twins(Check check) {
        this.check = check;
    }

    /** Three stages, one stuck, counts under way, steps done, six changes to undo, a text that can be laid. */
    static TapCascade busy() {
        return keptBusy(Check.laid(BUSY_TEXT));
    }

    static TapCascade keptBusy(TapCascade x) {
        x.tick(5);
        x.source(900);
        x.tell(0, 0, 1010);
        x.tell(1, 1, 1002);
        x.tell(2, 2, 4);
        x.stick(2, 1);
        x.tick(2);
        return x;
    }

    /** As busy(), but its text has a fault at its end. */
    static TapCascade spoilt() {
        TapCascade x = busy();
        Check.write(x, "v9");
        return x;
    }

    /** A call that is refused in each of these states, and changes nothing in them. */
    void refused(String name, Call call, long due) {
        refusedOn(TapCascade::new, "new: " + name, call, due);
        refusedOn(Twins::busy, "busy: " + name, call, due);
        refusedOn(Twins::spoilt, "spoilt: " + name, call, due);
    }

    void refusedOn(Maker maker, String name, Call call, long due) {
        check.due(name, call.on(maker.make()), due);
        changesNothing(maker, name, call);
    }

    void changesNothing(Maker maker, String name, Call call) {
        alike(name + " changes nothing", () -> called(maker, call), maker);
    }

    private static TapCascade called(Maker maker, Call call) {
        TapCascade x = maker.make();
        call.on(x);
        return x;
    }

    void alike(String name, Maker one, Maker other) {
        for (int k = 0; k < LATERS.length; k++) {
            List<Long> got = new ArrayList<>();
            List<Long> want = new ArrayList<>();
            LATERS[k].ask(one.make(), got);
            LATERS[k].ask(other.make(), want);
            check.holds(name + " (" + LATER_NAMES[k] + ")", got.equals(want));
        }
    }

    private static void standing(TapCascade x, List<Long> answers) {
        for (int what = 0; what < 12; what++) {
            answers.add((long) x.count(what));
        }
        for (int i = 0; i < 4; i++) {
            for (int what = 0; what < 16; what++) {
                answers.add((long) x.stage(i, what));
            }
            answers.add((long) x.best(i));
            answers.add(x.ratio(i, 0));
            answers.add(x.ratio(i, 1));
            answers.add((long) x.waits(i, 3));
            answers.add((long) x.settle(i));
        }
        for (int k = 0; k < 20; k++) {
            for (int what = 0; what < 3; what++) {
                answers.add((long) x.done(k, what));
            }
        }
    }

    private static void brief(TapCascade x, List<Long> answers) {
        for (int what = 0; what < 12; what++) {
            answers.add((long) x.count(what));
        }
        for (int i = 0; i < 4; i++) {
            for (int what : new int[] {3, 5, 7, 8, 14}) {
                answers.add((long) x.stage(i, what));
            }
        }
    }

    /** What a stage wanted is seen by its count behind the next tick alone. */
    private static void tickedOn(TapCascade x, List<Long> answers) {
        for (int k = 0; k < 4; k++) {
            answers.add((long) x.tick(1));
            brief(x, answers);
        }
        answers.add((long) x.tick(20));
        brief(x, answers);
    }

    private static void undone(TapCascade x, List<Long> answers) {
        for (int k = 0; k < 7; k++) {
            answers.add((long) x.undo());
            brief(x, answers);
        }
    }

    private static void text(TapCascade x, List<Long> answers) {
        answers.add((long) x.fault());
        answers.add((long) x.lay());
        brief(x, answers);
        for (int i = 0; i < 4; i++) {
            for (int what = 0; what < 7; what++) {
                answers.add((long) x.stage(i, what));
            }
        }
        answers.add((long) x.write(';'));
        answers.add((long) x.fault());
        answers.add((long) x.wipe());
    }
}
