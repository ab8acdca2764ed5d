/** Promises 1 to 5: a new object, write, wipe, fault, lay. */
final class TextTest {
    private static final Check CHECK = new Check("TextTest");
    private static final String STAGE = "s1,1000,1,1,0,0,0;";

    public static void main(String[] args) {
        newObject();
        writeAndWipe();
        faultsOfItems();
        faultsOfNumbers();
        faultsOfRanges();
        faultOfTheFifthStage();
        layTakesTheText();
        layIsRefused();
        layStartsAnew();
        CHECK.end();
    }

    private static void fault(String text, int place) {
        CHECK.due("fault() of '" + text + "'", Check.written(text).fault(), place);
    }

    private static void newObject() {
        TapCascade x = new TapCascade();
        int[] counts = {4, 1010, 0, 0, 0, 4, 0, 23, 0, 0, 1, 0};
        for (int what = 0; what < counts.length; what++) {
            CHECK.due("count(" + what + ") of a new object", x.count(what), counts[what]);
        }
        int[][] told = {{10, 1000, 12, 2, 0, 1020, 8}, {15, 1000, 16, 3, 2, 1015, 9},
            {20, 990, 25, 5, 1, 988, 6}, {12, 985, 20, 6, 0, 1018, 4}};
        for (int i = 0; i < told.length; i++) {
            for (int what = 0; what < 7; what++) {
                CHECK.stage(x, i, what, told[i][what]);
            }
            CHECK.stage(x, i, 7, 1000, 8, 0, 14, 0);
        }
        CHECK.due("undo() of a new object", x.undo(), TapCascade.NO);
        CHECK.due("done(0, 0) of a new object", x.done(0, 0), TapCascade.NONE);
        CHECK.due("wipe() of a new object", x.wipe(), 0);
        CHECK.due("BAD", TapCascade.BAD, -1);
        CHECK.due("NO", TapCascade.NO, -2);
        CHECK.due("FULL", TapCascade.FULL, -3);
        CHECK.due("NONE", TapCascade.NONE, -4);
        CHECK.due("ZERO", TapCascade.ZERO, 1000);
    }

    private static void writeAndWipe() {
        TapCascade x = new TapCascade();
        for (int letter : new int[] {31, 127, -1, 0, 233, Integer.MAX_VALUE, Integer.MIN_VALUE}) {
            CHECK.due("write(" + letter + ")", x.write(letter), TapCascade.BAD);
        }
        CHECK.due("count(9) behind BAD", x.count(9), 0);
        CHECK.due("write(32)", x.write(32), 1);
        CHECK.due("write(126)", x.write(126), 2);
        for (int k = 3; k <= 200; k++) {
            CHECK.due("write('v')", x.write('v'), k);
        }
        CHECK.due("write('v') of the 201st", x.write('v'), TapCascade.FULL);
        CHECK.due("BAD ahead of FULL", x.write(127), TapCascade.BAD);
        CHECK.due("count(9)", x.count(9), 200);
        CHECK.due("wipe()", x.wipe(), 200);
        CHECK.due("wipe()", x.wipe(), 0);
        CHECK.due("write('v')", x.write('v'), 1);
        CHECK.due("count(9)", x.count(9), 1);
    }

    private static void faultsOfItems() {
        fault("", TapCascade.NONE);
        fault(STAGE, TapCascade.NONE);
        fault("v1000;", TapCascade.NONE);
        fault(STAGE + "v900;" + STAGE, TapCascade.NONE);
        fault(";", 0);
        fault("v", 0);
        fault("v;", 0);
        fault("v1000", 0);
        fault("V1000;", 0);
        fault("S1,1000,1,1,0,0,0;", 0);
        fault("x1000;", 0);
        fault("1000;", 0);
        fault(" v1000;", 0);
        fault("v 1000;", 0);
        fault("v1000 ;", 0);
        fault("v1000; ", 6);
        fault("v1000;;", 6);
        fault("v1000;v", 6);
        fault("v1000;v1000,", 6);
        fault("s1,1000,1,1,0,0;", 0);
        fault("s1,1000,1,1,0,0,0,0;", 0);
        fault("s1,1000,1,1,0,0,0", 0);
        fault("s1;1000,1,1,0,0,0;", 0);
        fault("s1,1000,,1,0,0,0;", 0);
        fault("s,1000,1,1,0,0,0;", 0);
        fault("s1,1000,1,1,0,0,;", 0);
        fault(STAGE + "s1,1000,1,1,0,0;v799;", STAGE.length());
        fault("v900;v1201;v1202;", 5);
    }

    private static void faultsOfNumbers() {
        fault("v0900;", TapCascade.NONE);
        fault("v00900;", 0);
        fault("v10000;", 0);
        fault("v-900;", 0);
        fault("v+900;", 0);
        fault("s0001,1000,0001,0001,0000,0000,0000;", TapCascade.NONE);
        fault("s00001,1000,1,1,0,0,0;", 0);
        fault("s1,1000,1,1,0,-0,0;", 0);
        fault("s1,1000,1,1,0,-000,0;", 0);
        fault("s1,1000,1,1,0,-0001,0;", TapCascade.NONE);
        fault("s1,1000,1,1,0,-00001,0;", 0);
        fault("s1,1000,1,1,0,--1,0;", 0);
        fault("s1,1000,1,1,0,+1,0;", 0);
        fault("s1,1000,1,1,0,-,0;", 0);
        fault("s1,1000,1,1,0,1-,0;", 0);
        fault("s-1,1000,1,1,0,0,0;", 0);
        fault("s1,1000,1,1,-0,0,0;", 0);
        fault("s1,1000,1,1,0,0,-0;", 0);
        fault("s1,1000,1,1,0,0,-1;", 0);
    }

    private static void faultsOfRanges() {
        fault("v799;", 0);
        fault("v800;", TapCascade.NONE);
        fault("v1200;", TapCascade.NONE);
        fault("v1201;", 0);
        int[][] ranges = {{1, 50}, {800, 1200}, {1, 99}, {1, 9}, {0, 2}, {-50, 50}, {0, 9}};
        for (int k = 0; k < ranges.length; k++) {
            for (int end = 0; end < 2; end++) {
                int edge = ranges[k][end];
                fault(stageWith(k, edge), TapCascade.NONE);
                fault(stageWith(k, end == 0 ? edge - 1 : edge + 1), 0);
                TapCascade x = Check.laid(stageWith(k, edge));
                CHECK.stage(x, 0, k, k == 5 ? edge + TapCascade.ZERO : edge);
            }
        }
    }

    private static String stageWith(int k, int value) {
        int[] told = {1, 1000, 1, 1, 0, 0, 0};
        told[k] = value;
        StringBuilder text = new StringBuilder("s");
        for (int i = 0; i < told.length; i++) {
            text.append(told[i]).append(i == told.length - 1 ? ";" : ",");
        }
        return text.toString();
    }

    private static void faultOfTheFifthStage() {
        String four = STAGE + STAGE + STAGE + STAGE;
        fault(four, TapCascade.NONE);
        fault(four + "v900;", TapCascade.NONE);
        fault(four + STAGE, four.length());
        fault(four + "v900;" + STAGE, four.length() + 5);
        fault(four + "v900;" + STAGE + "v1;", four.length() + 5);
        CHECK.due("lay() of five stages", Check.written(four + STAGE).lay(), TapCascade.NO);
        CHECK.due("lay() of four stages", Check.written(four).lay(), 4);
        StringBuilder full = new StringBuilder(four);
        while (full.length() + 5 <= 200) {
            full.append("v900;");
        }
        fault(full.toString(), TapCascade.NONE);
        CHECK.due("lay() of a long text", Check.written(full.toString()).lay(), 4);
        fault("v900;".repeat(40), TapCascade.NONE);
        fault("v900;".repeat(39) + "v900,", 195);
        fault("v900;".repeat(39) + "v1000", 195);
        fault("v900;".repeat(38) + "v0900;" + "v900", 196);
        fault("v900;".repeat(39) + "s1,10", 195);
        fault("v900;".repeat(39) + "v900;" + "v", TapCascade.NONE);
    }

    private static void layTakesTheText() {
        CHECK.due("source without v", Check.laid(STAGE).count(1), 1000);
        CHECK.due("source behind", Check.laid(STAGE + "v900;").count(1), 900);
        CHECK.due("the last source", Check.laid("v900;" + STAGE + "v950;v0800;").count(1), 800);
        TapCascade x = Check.written("s2,900,3,4,1,-5,6;s7,1100,8,9,2,10,1;");
        CHECK.due("lay()", x.lay(), 2);
        CHECK.stage(x, 0, 0, 2, 1, 900, 2, 3, 3, 4, 4, 1, 5, 995, 6, 6, 7, 1000, 8, 0, 14, 0);
        CHECK.stage(x, 1, 0, 7, 1, 1100, 2, 8, 3, 9, 4, 2, 5, 1010, 6, 1, 7, 1000, 8, 0, 14, 0);
        CHECK.due("stage(2, 0)", x.stage(2, 0), TapCascade.BAD);
        CHECK.due("the text stays", x.count(9), 37);
        CHECK.due("lay() again", x.lay(), 2);
        CHECK.due("wipe()", x.wipe(), 37);
        CHECK.due("the line stays", x.count(0), 2);
        Check.write(x, STAGE);
        CHECK.due("lay() of one", x.lay(), 1);
        CHECK.due("count(0)", x.count(0), 1);
        CHECK.due("stage(1, 0)", x.stage(1, 0), TapCascade.BAD);
    }

    private static void layIsRefused() {
        TapCascade x = new TapCascade();
        CHECK.due("source(900)", x.source(900), 1010);
        CHECK.due("stick(1, 1)", x.stick(1, 1), 1);
        CHECK.due("lay() of nothing", x.lay(), TapCascade.NO);
        Check.write(x, "v1000;");
        CHECK.due("lay() without a stage", x.lay(), TapCascade.NO);
        Check.write(x, STAGE + "v");
        CHECK.due("lay() with a fault", x.lay(), TapCascade.NO);
        CHECK.due("fault()", x.fault(), 6 + STAGE.length());
        CHECK.due("count(0)", x.count(0), 4);
        CHECK.due("count(1)", x.count(1), 900);
        CHECK.due("count(6)", x.count(6), 1);
        CHECK.due("count(8)", x.count(8), 2);
        CHECK.due("undo()", x.undo(), 1);
    }

    private static void layStartsAnew() {
        TapCascade x = Check.laid("v900;s50,1000,1,2,0,0,0;");
        CHECK.due("tick(5)", x.tick(5), 2);
        CHECK.stage(x, 0, 7, 1002, 14, 1);
        x.stick(0, 1);
        x.source(1000);
        CHECK.due("lay()", x.lay(), 1);
        CHECK.stage(x, 0, 7, 1000, 8, 0, 11, 1900, 14, 0);
        int[] counts = {1, 900, 0, 0, 0, 0, 0, 100, 0, 24, 0, 0};
        for (int what = 0; what < counts.length; what++) {
            CHECK.due("count(" + what + ") behind lay()", x.count(what), counts[what]);
        }
        CHECK.due("done(0, 0)", x.done(0, 0), TapCascade.NONE);
        CHECK.due("undo()", x.undo(), TapCascade.NO);
        // wanted is nothing again: else the first tick would count on from another way
        CHECK.due("tick(1)", x.tick(1), 0);
        CHECK.stage(x, 0, 14, 1);
        CHECK.due("tick(1)", x.tick(1), 1);
        CHECK.due("no step back behind lay()", x.count(4), 0);
    }
}
