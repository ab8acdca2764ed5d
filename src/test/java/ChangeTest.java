/** Promises 6, 7, 8 and 10: source, tell, stick, undo. */
final class ChangeTest {
    private static final Check CHECK = new Check("ChangeTest");
    private static final int[] WRONG_STAGES = {-1, 4, Integer.MIN_VALUE, Integer.MAX_VALUE};

    public static void main(String[] args) {
        source();
        tellLoad();
        tellTap();
        tellWait();
        tellWrong();
        stick();
        undoBringsAllBack();
        undoKeepsSix();
        undoForgetsStepsTold();
        undoBringsStepsToldBack();
        CHECK.end();
    }

    private static void source() {
        TapCascade x = new TapCascade();
        for (int v : new int[] {799, 1201, 0, -1, Integer.MIN_VALUE, Integer.MAX_VALUE}) {
            CHECK.due("source(" + v + ")", x.source(v), TapCascade.BAD);
        }
        CHECK.due("source(1010)", x.source(1010), TapCascade.NO);
        CHECK.due("count(8)", x.count(8), 0);
        CHECK.due("source(800)", x.source(800), 1010);
        CHECK.stage(x, 0, 10, 1800, 11, 1800, 12, 1);
        CHECK.stage(x, 3, 10, 1769);
        CHECK.due("source(800)", x.source(800), TapCascade.NO);
        CHECK.due("source(1200)", x.source(1200), 800);
        CHECK.due("count(1)", x.count(1), 1200);
        CHECK.due("count(8)", x.count(8), 2);
    }

    private static void tellLoad() {
        TapCascade x = new TapCascade();
        CHECK.due("tell(0, 0, 1020)", x.tell(0, 0, 1020), TapCascade.NO);
        CHECK.due("tell(3, 0, 950)", x.tell(3, 0, 950), 1018);
        // flows 20 15 -12 -50 from behind: -50, -62, -47, -27
        CHECK.stage(x, 3, 5, 950, 9, 950, 10, 2132);
        CHECK.stage(x, 2, 9, 938, 10, 2102);
        CHECK.stage(x, 1, 9, 953, 10, 2047);
        CHECK.stage(x, 0, 9, 973, 10, 2010);
        CHECK.due("tell(3, 0, 1050)", x.tell(3, 0, 1050), 950);
        CHECK.due("tell(3, 0, 1000)", x.tell(3, 0, 1000), 1050);
        CHECK.due("count(8)", x.count(8), 3);
    }

    private static void tellTap() {
        TapCascade x = new TapCascade();
        CHECK.due("tell(1, 1, 1000)", x.tell(1, 1, 1000), TapCascade.NO);
        CHECK.due("tell(1, 1, 995)", x.tell(1, 1, 995), 1000);
        // 994 times 925 by 1000 is 919.45
        CHECK.stage(x, 1, 7, 995, 11, 1919);
        CHECK.due("tell(1, 1, 1005)", x.tell(1, 1, 1005), 995);
        // 994 times 1075 by 1000 is 1068.55
        CHECK.stage(x, 1, 7, 1005, 11, 2068);
        x.stick(1, 1);
        CHECK.due("a stuck one is told, too", x.tell(1, 1, 1001), 1005);
        CHECK.due("no step is done by it", x.count(3), 0);
    }

    private static void tellWait() {
        TapCascade x = new TapCascade();
        CHECK.due("tell(2, 2, 5)", x.tell(2, 2, 5), TapCascade.NO);
        CHECK.due("tell(2, 2, 1)", x.tell(2, 2, 1), 5);
        CHECK.due("tell(2, 2, 9)", x.tell(2, 2, 9), 1);
        CHECK.stage(x, 2, 3, 9);
        TapCascade y = Check.laid("v900;s10,1000,5,9,0,0,0;");
        CHECK.due("tick(5)", y.tick(5), 0);
        CHECK.stage(y, 0, 14, 5);
        CHECK.due("tell(0, 2, 2)", y.tell(0, 2, 2), 9);
        CHECK.stage(y, 0, 14, 5);
        CHECK.due("the count is beyond the wait", y.tick(1), 1);
    }

    private static void tellWrong() {
        TapCascade x = new TapCascade();
        for (int i : WRONG_STAGES) {
            CHECK.due("tell(" + i + ", 0, 1000)", x.tell(i, 0, 1000), TapCascade.BAD);
            CHECK.due("tell(" + i + ", 2, 1)", x.tell(i, 2, 1), TapCascade.BAD);
        }
        int[][] wrong = {{0, 949}, {0, 1051}, {0, 0}, {1, 994}, {1, 1006}, {1, 0}, {2, 0}, {2, 10}, {2, 1001},
            {-1, 1000}, {3, 1000}, {3, 5}, {0, Integer.MIN_VALUE}, {1, Integer.MAX_VALUE}, {2, Integer.MIN_VALUE}};
        for (int[] w : wrong) {
            CHECK.due("tell(0, " + w[0] + ", " + w[1] + ")", x.tell(0, w[0], w[1]), TapCascade.BAD);
        }
        CHECK.due("count(8)", x.count(8), 0);
        TapCascade one = Check.laid("s1,1000,1,1,0,0,0;");
        CHECK.due("tell of a stage that is not there", one.tell(1, 0, 1001), TapCascade.BAD);
    }

    private static void stick() {
        TapCascade x = new TapCascade();
        for (int i : WRONG_STAGES) {
            CHECK.due("stick(" + i + ", 1)", x.stick(i, 1), TapCascade.BAD);
        }
        for (int is : new int[] {-1, 2, Integer.MIN_VALUE, Integer.MAX_VALUE}) {
            CHECK.due("stick(0, " + is + ")", x.stick(0, is), TapCascade.BAD);
        }
        CHECK.due("stick(0, 0)", x.stick(0, 0), TapCascade.NO);
        CHECK.due("stick(0, 1)", x.stick(0, 1), 1);
        CHECK.due("stick(0, 1)", x.stick(0, 1), TapCascade.NO);
        CHECK.due("stick(3, 1)", x.stick(3, 1), 2);
        CHECK.stage(x, 3, 8, 1);
        CHECK.due("stick(0, 0)", x.stick(0, 0), 1);
        CHECK.stage(x, 0, 8, 0);
        CHECK.due("stick(3, 0)", x.stick(3, 0), 0);
        CHECK.due("count(8)", x.count(8), 4);
        TapCascade one = Check.laid("s1,1000,1,1,0,0,0;");
        CHECK.due("stick of a stage that is not there", one.stick(1, 1), TapCascade.BAD);
    }

    private static void undoBringsAllBack() {
        TapCascade x = Check.laid("v900;s10,1000,5,3,0,5,0;");
        CHECK.due("undo()", x.undo(), TapCascade.NO);
        CHECK.due("tick(2)", x.tick(2), 0);
        CHECK.due("source(1100)", x.source(1100), 900);
        CHECK.due("tell(0, 0, 990)", x.tell(0, 0, 990), 1005);
        CHECK.due("tell(0, 1, 1002)", x.tell(0, 1, 1002), 1000);
        CHECK.due("tell(0, 2, 1)", x.tell(0, 2, 1), 3);
        CHECK.due("tick(4)", x.tick(4), 4);
        CHECK.stage(x, 0, 7, 998);
        CHECK.due("undo() of ticks", x.undo(), 5);
        CHECK.stage(x, 0, 3, 1, 7, 1002, 14, 2);
        CHECK.due("count(2)", x.count(2), 2);
        CHECK.due("count(3)", x.count(3), 0);
        CHECK.due("undo() of the wait", x.undo(), 4);
        CHECK.stage(x, 0, 3, 3);
        CHECK.due("undo() of the tap", x.undo(), 3);
        CHECK.stage(x, 0, 7, 1000, 11, 2100);
        CHECK.due("undo() of the load", x.undo(), 2);
        CHECK.stage(x, 0, 5, 1005, 9, 1005);
        CHECK.due("undo() of the source", x.undo(), 1);
        CHECK.stage(x, 0, 10, 1900, 11, 1900, 12, 1, 14, 2);
        CHECK.due("tick(1): wanted is as it was", x.tick(1), 1);
        CHECK.due("stick(0, 1)", x.stick(0, 1), 1);
        CHECK.due("undo() of stuck", x.undo(), 2);
        CHECK.stage(x, 0, 8, 0);
        CHECK.due("undo()", x.undo(), 1);
        CHECK.due("undo()", x.undo(), 0);
        CHECK.stage(x, 0, 14, 0);
        CHECK.due("count(2)", x.count(2), 0);
        CHECK.due("undo()", x.undo(), TapCascade.NO);
    }

    private static void undoKeepsSix() {
        TapCascade x = new TapCascade();
        for (int k = 1; k <= 8; k++) {
            CHECK.due("tick(1) by which only the ticks are more", x.tick(1), 0);
            CHECK.due("count(8)", x.count(8), Math.min(k, 6));
        }
        CHECK.due("source(1010) is no change", x.source(1010), TapCascade.NO);
        CHECK.due("tick(0) is no change", x.tick(0), TapCascade.BAD);
        for (int k = 5; k >= 0; k--) {
            CHECK.due("undo()", x.undo(), k);
            CHECK.due("count(2)", x.count(2), 2 + k);
        }
        CHECK.due("undo()", x.undo(), TapCascade.NO);
        CHECK.due("count(2)", x.count(2), 2);
        CHECK.due("tick(50)", x.tick(50), 0);
        CHECK.due("undo() of ticks of one call at once", x.undo(), 0);
        CHECK.due("count(2)", x.count(2), 2);
        x.write('v');
        CHECK.due("the text can not be undone", x.undo(), TapCascade.NO);
        CHECK.due("count(9)", x.count(9), 1);
    }

    private static void undoForgetsStepsTold() {
        TapCascade x = Check.laid("v1010;s50,1000,1,1,0,0,0;");
        CHECK.due("tick(23)", x.tick(23), 23);
        CHECK.due("tick(31)", x.tick(31), 31);
        CHECK.step(x, 0, 53, 0, 1);
        CHECK.due("count(4)", x.count(4), 53);
        CHECK.due("undo()", x.undo(), 1);
        CHECK.due("count(3)", x.count(3), 23);
        CHECK.due("count(4)", x.count(4), 22);
        for (int k = 0; k < 20; k++) {
            CHECK.step(x, k, 22 - k, 0, k % 2 == 0 ? 2 : 1);
        }
        CHECK.due("done(20, 0)", x.done(20, 0), TapCascade.NONE);
        CHECK.due("tick(1)", x.tick(1), 1);
        CHECK.due("count(4): the last way is as it was", x.count(4), 23);
    }

    /** Steps of another stage the other way stand where the told ones stood, till they are undone. */
    private static void undoBringsStepsToldBack() {
        TapCascade x = Check.laid("v1010;s50,1000,1,1,0,0,0;s50,985,99,1,0,0,0;");
        CHECK.due("tick(20)", x.tick(20), 20);
        CHECK.due("source(1200)", x.source(1200), 1010);
        CHECK.due("tick(1)", x.tick(1), 2);
        CHECK.step(x, 0, 20, 1, 2);
        CHECK.step(x, 1, 20, 0, 2);
        CHECK.step(x, 2, 19, 0, 1);
        CHECK.due("undo()", x.undo(), 2);
        for (int k = 0; k < 20; k++) {
            CHECK.step(x, k, 19 - k, 0, k % 2 == 0 ? 1 : 2);
        }
    }
}
