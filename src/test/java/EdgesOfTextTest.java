/** The edges of promises 1 to 5, each in a part of its own: a new object, write, wipe, fault, lay. */
final class EdgesOfTextTest {
    private static final Check CHECK = new Check("EdgesOfTextTest");
    private static final Twins TWINS = new Twins(CHECK);
    private static final int BAD = TapCascade.BAD, NO = TapCascade.NO, FULL = TapCascade.FULL, NONE = TapCascade.NONE;
    private static final String STAGE = "s1,1000,1,1,0,0,0;";
    private static final String FOUR = STAGE + STAGE + STAGE + STAGE;
    private static final String FIRST =
            "v1010;s10,1000,12,2,0,20,8;s15,1000,16,3,2,15,9;s20,990,25,5,1,-12,6;s12,985,20,6,0,18,4;";
    /** 199 letters of items that are all right, and 200 with four stages among them. */
    private static final String ALL_BUT_ONE = "v900;".repeat(35) + "v1000;".repeat(4);
    private static final String WHOLE = FOUR + "v900;".repeat(22) + "v1000;".repeat(3);

    public static void main(String[] args) {
        newTextIsEmpty();
        newHasNothingToUndo();
        newIsTheLineOfTheDocument();
        newObjectsShareNothing();
        letterTooSmall();
        letterTooLarge();
        letterAtTheFull();
        badAheadOfFull();
        wipeOfEmptyOneAndFull();
        wipeLeavesTheLine();
        numbersOfTheText();
        figures();
        minus();
        minusOfNought();
        numbersOfAnItem();
        firstLetterOfAnItem();
        endOfAnItem();
        noItemAndNoStage();
        fifthStage();
        firstFaultOfSeveral();
        faultAtTheLastPlace();
        whatWasWipedIsNotRead();
        faultChangesNothing();
        layOfNothing();
        layWithoutAStage();
        layWithAFault();
        layOfOneToFive();
        layOfAFullText();
        laySource();
        layForgetsAll();
        layLeavesTheText();
        CHECK.end();
    }

    private static void fault(String text, int place) {
        CHECK.due("fault() of '" + text + "'", Check.written(text).fault(), place);
    }

    // ---- promise 1

    private static void newTextIsEmpty() {
        CHECK.of("1, the text is empty");
        CHECK.due("count(9)", new TapCascade().count(9), 0);
        CHECK.due("wipe()", new TapCascade().wipe(), 0);
        CHECK.due("fault()", new TapCascade().fault(), NONE);
        CHECK.due("lay()", new TapCascade().lay(), NO);
        CHECK.due("write('v')", new TapCascade().write('v'), 1);
    }

    private static void newHasNothingToUndo() {
        CHECK.of("1, nothing to undo, no step, no tick");
        CHECK.due("undo()", new TapCascade().undo(), NO);
        for (int what : new int[] {2, 3, 4, 6, 8, 11}) {
            CHECK.due("count(" + what + ")", new TapCascade().count(what), 0);
        }
    }

    private static void newIsTheLineOfTheDocument() {
        CHECK.of("1, the line that is laid at first");
        TWINS.alike("a new object, and one that laid the document's text", TapCascade::new, () -> wiped(Check.laid(FIRST)));
        TWINS.alike("behind changes", Twins::busy, () -> laidBehind(Twins.BUSY_TEXT, FIRST));
    }

    private static TapCascade wiped(TapCascade x) {
        x.wipe();
        return x;
    }

    /** A busy object whose line was another one first. */
    private static TapCascade laidBehind(String text, String first) {
        TapCascade x = Check.laid(first);
        x.wipe();
        Check.write(x, text);
        x.lay();
        return Twins.keptBusy(x);
    }

    private static void newObjectsShareNothing() {
        CHECK.of("1, objects share nothing");
        TapCascade x = new TapCascade();
        TapCascade other = Twins.busy();
        other.write('x');
        CHECK.due("count(9)", x.count(9), 0);
        CHECK.due("count(0)", x.count(0), 4);
        CHECK.due("count(1)", x.count(1), 1010);
        CHECK.due("undo()", x.undo(), NO);
    }

    // ---- promise 2

    private static void letterTooSmall() {
        CHECK.of("2, the least letter");
        CHECK.due("write(32)", new TapCascade().write(32), 1);
        for (int letter : new int[] {31, 0, -1, Integer.MIN_VALUE}) {
            TWINS.refused("write(" + letter + ")", x -> x.write(letter), BAD);
        }
    }

    private static void letterTooLarge() {
        CHECK.of("2, the most letter");
        CHECK.due("write(126)", new TapCascade().write(126), 1);
        for (int letter : new int[] {127, 128, 255, 256 + 'v', Integer.MAX_VALUE}) {
            TWINS.refused("write(" + letter + ")", x -> x.write(letter), BAD);
        }
    }

    private static void letterAtTheFull() {
        CHECK.of("2, the 200th letter and the 201st");
        TapCascade x = Check.written(WHOLE.substring(0, 198));
        CHECK.due("write of the 199th", x.write(WHOLE.charAt(198)), 199);
        CHECK.due("write of the 200th", x.write(WHOLE.charAt(199)), 200);
        CHECK.due("write of the 201st", x.write('v'), FULL);
        CHECK.due("write of the 201st again", x.write('v'), FULL);
        CHECK.due("count(9)", x.count(9), 200);
        TWINS.refusedOn(() -> Check.written(WHOLE), "write of the 201st", y -> y.write('x'), FULL);
        x.wipe();
        CHECK.due("write of the first behind wipe()", x.write('v'), 1);
    }

    private static void badAheadOfFull() {
        CHECK.of("2, BAD ahead of FULL");
        TWINS.refusedOn(() -> Check.written(WHOLE), "write(31)", x -> x.write(31), BAD);
        TWINS.refusedOn(() -> Check.written(WHOLE), "write(127)", x -> x.write(127), BAD);
        TWINS.refusedOn(() -> Check.written(WHOLE), "write(32)", x -> x.write(32), FULL);
        TWINS.refusedOn(() -> Check.written(WHOLE), "write(126)", x -> x.write(126), FULL);
    }

    // ---- promise 3

    private static void wipeOfEmptyOneAndFull() {
        CHECK.of("3, the empty text, one letter, the full text");
        CHECK.due("wipe() of none", new TapCascade().wipe(), 0);
        CHECK.due("wipe() of one", Check.written(" ").wipe(), 1);
        TapCascade x = Check.written(WHOLE);
        CHECK.due("wipe() of 200", x.wipe(), 200);
        CHECK.due("wipe() again", x.wipe(), 0);
        CHECK.due("count(9)", x.count(9), 0);
        CHECK.due("lay()", x.lay(), NO);
        TWINS.changesNothing(TapCascade::new, "wipe() of none", TapCascade::wipe);
    }

    private static void wipeLeavesTheLine() {
        CHECK.of("3, the line and its changes stay");
        TapCascade x = Twins.busy();
        CHECK.due("wipe()", x.wipe(), Twins.BUSY_TEXT.length());
        CHECK.due("count(0)", x.count(0), 3);
        CHECK.due("count(8)", x.count(8), 6);
        TWINS.alike("written anew", Twins::busy, EdgesOfTextTest::busyWrittenAnew);
    }

    private static TapCascade busyWrittenAnew() {
        TapCascade x = Twins.busy();
        x.wipe();
        Check.write(x, Twins.BUSY_TEXT);
        return x;
    }

    // ---- promise 4

    private static void numbersOfTheText() {
        numberOfTheText("SOURCE", -1, 800, 1200);
        numberOfTheText("STEP", 0, 1, 50);
        numberOfTheText("TARGET", 1, 800, 1200);
        numberOfTheText("BAND", 2, 1, 99);
        numberOfTheText("WAIT", 3, 1, 9);
        numberOfTheText("RULE", 4, 0, 2);
        numberOfTheText("LOAD", 5, -50, 50);
        numberOfTheText("WAY", 6, 0, 9);
    }

    private static void numberOfTheText(String name, int k, int least, int most) {
        CHECK.of("4, the least and the most " + name);
        for (int v = least; v <= most; v++) {
            String text = with(k, Integer.toString(v));
            fault(text, NONE);
            TapCascade x = Check.laid(text);
            int got = k < 0 ? x.count(1) : x.stage(0, k);
            CHECK.due(name + " of " + text, got, k == 5 ? v + TapCascade.ZERO : v);
        }
        for (int v : new int[] {least - 1, most + 1, -9999, 9999}) {
            fault(with(k, Integer.toString(v)), 5);
            CHECK.due("lay() of " + v, Check.written(with(k, Integer.toString(v))).lay(), NO);
        }
    }

    /** A text whose second item, at place 5, has this number; the others are all right. */
    private static String with(int k, String number) {
        if (k < 0) {
            return "v900;v" + number + ";" + STAGE;
        }
        String[] numbers = {"1", "1000", "1", "1", "0", "0", "0"};
        numbers[k] = number;
        return "v900;s" + String.join(",", numbers) + ";";
    }

    private static void figures() {
        String[] four = {"0900", "0001", "1000", "0001", "0001", "0000", "0000", "0000"};
        for (int k = -1; k < 7; k++) {
            String number = four[k + 1];
            CHECK.of("4, figures of number " + k);
            fault(with(k, number), NONE);
            fault(with(k, "0" + number), 5);
            fault(with(k, number + "0"), 5);
            fault(with(k, "00000000" + number), 5);
            fault(with(k, ""), 5);
            fault(with(k, " " + number), 5);
            fault(with(k, number + " "), 5);
            fault(with(k, "+" + number), 5);
            fault(with(k, number.substring(0, 3) + "/"), 5);
            fault(with(k, number.substring(0, 3) + ":"), 5);
        }
        CHECK.of("4, figures of a LOAD below 0");
        fault(with(5, "-1"), NONE);
        fault(with(5, "-0050"), NONE);
        fault(with(5, "-00050"), 5);
        fault(with(5, "-"), 5);
        CHECK.of("4, one figure");
        fault("s1,1000,1,1,0,0,0;", NONE);
        CHECK.of("4, the least and the most figure");
        fault("v0980;s09,1090,90,9,0,09,9;", NONE);
    }

    private static void minus() {
        String[] good = {"900", "1", "1000", "1", "1", "1", "1", "1"};
        for (int k = -1; k < 7; k++) {
            CHECK.of("4, a minus ahead of number " + k);
            fault(with(k, "-" + good[k + 1]), k == 5 ? NONE : 5);
            fault(with(k, "--" + good[k + 1]), 5);
            fault(with(k, good[k + 1] + "-"), 5);
        }
    }

    private static void minusOfNought() {
        for (int k = 4; k < 7; k++) {
            CHECK.of("4, a minus ahead of 0, number " + k);
            fault(with(k, "0"), NONE);
            for (String nought : new String[] {"-0", "-00", "-000", "-0000"}) {
                fault(with(k, nought), 5);
            }
        }
        CHECK.of("4, a minus ahead of -1 and of 1");
        fault(with(5, "-1"), NONE);
        fault(with(5, "-01"), NONE);
        fault(with(5, "-10"), NONE);
    }

    private static void numbersOfAnItem() {
        CHECK.of("4, as many numbers as an item has");
        fault("s1,1000,1,1,0,0;", 0);
        fault("s1,1000,1,1,0,0,0;", NONE);
        fault("s1,1000,1,1,0,0,0,0;", 0);
        fault("s;", 0);
        fault("s1;", 0);
        fault("v;", 0);
        fault("v900;", NONE);
        fault("v900,900;", 0);
    }

    private static void firstLetterOfAnItem() {
        CHECK.of("4, the first letter of an item");
        for (int letter = 32; letter <= 126; letter++) {
            fault("v900;" + (char) letter + "900;", letter == 'v' ? NONE : 5);
            fault("v900;" + (char) letter + "1,1000,1,1,0,0,0;", letter == 's' ? NONE : 5);
        }
    }

    private static void endOfAnItem() {
        CHECK.of("4, the ; behind each item");
        fault("v900", 0);
        fault("v900;", NONE);
        fault("v900;;", 5);
        fault("v900; ", 5);
        fault("v900:", 0);
        fault("v900v900;", 0);
        fault(STAGE.substring(0, STAGE.length() - 1), 0);
        fault(STAGE + STAGE.substring(0, STAGE.length() - 1), STAGE.length());
        for (int cut = 1; cut < STAGE.length(); cut++) {
            fault("v900;" + STAGE.substring(0, cut), 5);
        }
    }

    private static void noItemAndNoStage() {
        CHECK.of("4, no item, no stage: no fault");
        fault("", NONE);
        fault("v800;", NONE);
        fault("v900;".repeat(40), NONE);
    }

    private static void fifthStage() {
        CHECK.of("4, the fourth stage and the fifth");
        fault(STAGE.repeat(4), NONE);
        fault(STAGE.repeat(5), 72);
        fault(STAGE.repeat(6), 72);
        fault(FOUR + "v900;", NONE);
        fault(FOUR + "v900;" + STAGE, 77);
        fault(FOUR + "s0,1000,1,1,0,0,0;", 72);
        fault(FOUR + "v1201;" + STAGE, 72);
        fault("v900;" + FOUR + STAGE, 77);
    }

    private static void firstFaultOfSeveral() {
        CHECK.of("4, the first of several");
        fault("v799;v1201;", 0);
        fault("v800;v1201;v799;", 5);
        fault(STAGE + "x;" + "v1;", 18);
        fault("s0,0,0,0,9,99,99;", 0);
    }

    private static void faultAtTheLastPlace() {
        CHECK.of("4, the last place of the full text");
        fault(ALL_BUT_ONE, NONE);
        fault(ALL_BUT_ONE + "v", 199);
        fault(ALL_BUT_ONE + ";", 199);
        fault(ALL_BUT_ONE.substring(0, 193) + "v10000", 193);
        fault(WHOLE, NONE);
        fault(WHOLE.substring(0, 199) + ",", 194);
        // the letter that is not taken is not read either
        fault(WHOLE + "x", NONE);
        fault(WHOLE.substring(0, 199) + ",;", 194);
    }

    private static void whatWasWipedIsNotRead() {
        CHECK.of("4, letters that stood behind the end of a longer text");
        for (int length = 0; length <= 23; length++) {
            TapCascade x = Check.written("v900;" + STAGE);
            x.wipe();
            Check.write(x, ("v900;" + STAGE).substring(0, length));
            boolean ends = length == 0 || length == 5 || length == 23;
            CHECK.due("fault() of the first " + length, x.fault(), ends ? NONE : length < 5 ? 0 : 5);
            CHECK.due("lay() of the first " + length, x.lay(), length == 23 ? 1 : NO);
        }
    }

    private static void faultChangesNothing() {
        CHECK.of("4, nothing changes");
        TWINS.changesNothing(TapCascade::new, "fault() of the empty text", TapCascade::fault);
        TWINS.changesNothing(Twins::busy, "fault() that is NONE", TapCascade::fault);
        TWINS.changesNothing(Twins::spoilt, "fault() that is one", TapCascade::fault);
        TWINS.changesNothing(() -> Check.written(WHOLE), "fault() of the full text", TapCascade::fault);
    }

    // ---- promise 5

    private static void layOfNothing() {
        CHECK.of("5, the empty text");
        TWINS.refusedOn(TapCascade::new, "lay()", TapCascade::lay, NO);
        TWINS.refusedOn(() -> wiped(Twins.busy()), "lay() behind wipe()", TapCascade::lay, NO);
    }

    private static void layWithoutAStage() {
        CHECK.of("5, a text without a stage");
        TWINS.refusedOn(() -> Check.written("v900;"), "lay()", TapCascade::lay, NO);
        TWINS.refusedOn(() -> Check.written("v900;".repeat(40)), "lay() of 200 letters", TapCascade::lay, NO);
        TWINS.refusedOn(() -> behindBusy("v900;"), "lay() of a busy one", TapCascade::lay, NO);
        CHECK.due("lay() with a stage", Check.written("v900;" + STAGE).lay(), 1);
    }

    private static TapCascade behindBusy(String text) {
        TapCascade x = wiped(Twins.busy());
        Check.write(x, text);
        return x;
    }

    private static void layWithAFault() {
        CHECK.of("5, a text with a fault");
        TWINS.refusedOn(Twins::spoilt, "lay()", TapCascade::lay, NO);
        TWINS.refusedOn(() -> behindBusy(STAGE + "v799;"), "lay() of one that is out of its bounds", TapCascade::lay, NO);
        TWINS.refusedOn(() -> behindBusy("v"), "lay() of one letter", TapCascade::lay, NO);
        TWINS.refusedOn(() -> behindBusy(FOUR + STAGE), "lay() of five stages", TapCascade::lay, NO);
    }

    private static void layOfOneToFive() {
        CHECK.of("5, one stage to four, and five");
        for (int stages = 1; stages <= 4; stages++) {
            TapCascade x = Check.written(STAGE.repeat(stages));
            CHECK.due("lay()", x.lay(), stages);
            CHECK.due("count(0)", x.count(0), stages);
            CHECK.due("stage of the last", x.stage(stages - 1, 0), 1);
            CHECK.due("stage behind the last", x.stage(stages, 0), BAD);
        }
        TapCascade x = Check.written(STAGE.repeat(5));
        CHECK.due("lay() of five", x.lay(), NO);
        CHECK.due("count(1) behind it", x.count(1), 1010);
    }

    private static void layOfAFullText() {
        CHECK.of("5, the full text");
        TapCascade x = Check.written(WHOLE);
        CHECK.due("lay()", x.lay(), 4);
        CHECK.due("count(1)", x.count(1), 1000);
        CHECK.due("count(9)", x.count(9), 200);
    }

    private static void laySource() {
        CHECK.of("5, no source, one, several");
        CHECK.due("none", Check.laid(STAGE).count(1), 1000);
        CHECK.due("one", Check.laid("v800;" + STAGE).count(1), 800);
        CHECK.due("one behind the stage", Check.laid(STAGE + "v1200;").count(1), 1200);
        CHECK.due("the last of two", Check.laid("v1200;" + STAGE + "v800;").count(1), 800);
        CHECK.due("the last of three", Check.laid("v1200;v800;v801;" + STAGE).count(1), 801);
        TapCascade x = Check.laid("v900;" + STAGE);
        x.wipe();
        Check.write(x, STAGE);
        CHECK.due("lay() without one, behind one with", x.lay(), 1);
        CHECK.due("count(1)", x.count(1), 1000);
    }

    private static void layForgetsAll() {
        CHECK.of("5, all is as at first");
        TWINS.alike("laid behind changes", () -> laidAnew(Twins.busy()), () -> Check.laid(Twins.BUSY_TEXT));
        TapCascade x = laidAnew(Twins.busy());
        CHECK.due("undo()", x.undo(), NO);
        CHECK.due("count(8)", x.count(8), 0);
        CHECK.due("done(0, 0)", x.done(0, 0), NONE);
        x.tick(1);
        CHECK.due("undo() of what comes behind", x.undo(), 0);
        CHECK.due("undo() of lay()", x.undo(), NO);
        // fewer stages than ahead of it: the others are there no more
        TapCascade fewer = behindBusy(STAGE);
        CHECK.due("lay() of one behind three", fewer.lay(), 1);
        CHECK.due("stage(1, 0)", fewer.stage(1, 0), BAD);
        CHECK.due("count(6): the stuck one is gone", fewer.count(6), 0);
        CHECK.stage(fewer, 0, 9, 1000);
        // and more again: none is stuck, no tap is turned
        fewer.wipe();
        Check.write(fewer, FOUR);
        CHECK.due("lay() of four behind one", fewer.lay(), 4);
        for (int i = 0; i < 4; i++) {
            CHECK.stage(fewer, i, 7, 1000, 8, 0, 14, 0);
        }
    }

    private static TapCascade laidAnew(TapCascade x) {
        x.lay();
        return x;
    }

    private static void layLeavesTheText() {
        CHECK.of("5, the text stays");
        TapCascade x = Check.written(STAGE);
        CHECK.due("lay()", x.lay(), 1);
        CHECK.due("count(9)", x.count(9), 18);
        Check.write(x, STAGE);
        CHECK.due("lay() of what was written on", x.lay(), 2);
        CHECK.due("wipe()", x.wipe(), 36);
    }
}
