/** Promises 13 to 18: settle, best, ratio, graded, waits, count. */
final class OutlookTest {
    private static final Check CHECK = new Check("OutlookTest");
    private static final int NONE = TapCascade.NONE;
    private static final int BAD = TapCascade.BAD;
    private static final int[] WRONG_STAGES = {4, -2, Integer.MIN_VALUE, Integer.MAX_VALUE};

    public static void main(String[] args) {
        settlesQuiet();
        settlesInARound();
        settlesWithin300();
        settleChangesNothing();
        best();
        bestOfSeveral();
        bestWithStuck();
        ratio();
        graded();
        waits();
        countStepsBack();
        countUnlike();
        countAsItStands();
        wrongNumbers();
        CHECK.end();
    }

    private static void settlesQuiet() {
        CHECK.settled(new TapCascade(), 0, NONE, NONE, NONE);
        TapCascade x = Check.laid("v900;s10,1000,5,3,0,0,0;");
        CHECK.settled(x, 15, NONE, NONE, NONE);
        x.tick(4);
        CHECK.settled(x, 11, NONE, NONE, NONE);
        x.tick(11);
        CHECK.settled(x, 0, NONE, NONE, NONE);
        TapCascade two = Check.laid("v960;s50,1000,9,1,0,0,0;s50,1000,9,1,0,0,0;");
        CHECK.settled(two, 2, NONE, NONE, NONE);
        TapCascade stuck = Check.laid("v1010;s50,1000,1,1,0,0,0;");
        stuck.stick(0, 1);
        CHECK.settled(stuck, 0, NONE, NONE, NONE);
    }

    private static void settlesInARound() {
        CHECK.settled(Check.laid("v1010;s50,1000,1,1,0,0,0;"), NONE, 0, 2, 2);
        CHECK.settled(Check.laid("v1010;s50,1000,1,4,0,0,0;"), NONE, 0, 8, 2);
        // outs 900, 945, 990, then 1035 and 990 in turn
        TapCascade x = Check.laid("v900;s50,1000,1,1,0,0,0;");
        CHECK.settled(x, NONE, 2, 2, 2);
        x.tick(1);
        CHECK.settled(x, NONE, 1, 2, 2);
        TapCascade slow = Check.laid("v900;s50,1000,1,3,0,0,0;");
        CHECK.settled(slow, NONE, 6, 6, 2);
        // its count is 1 and the way not yet turned: that comes again in the round
        slow.tick(7);
        CHECK.settled(slow, NONE, 0, 6, 2);
        // it wanted down and wants up now: taps and counts behind one tick are as now, what is wanted is not
        TapCascade turned = Check.laid("v1010;s50,1000,1,2,0,0,0;");
        turned.tick(1);
        turned.source(960);
        CHECK.settled(turned, NONE, 1, 4, 2);
    }

    private static void settlesWithin300() {
        CHECK.settled(Check.laid("v999;s27,985,7,9,0,-43,1;s27,964,3,5,0,47,0;s40,1001,1,5,2,-38,3;s9,1033,4,4,0,-16,1;"),
                NONE, 30, 270, 80);
        TapCascade x = Check.laid("v943;s28,1028,3,9,0,-30,9;s13,1047,3,2,0,9,8;s3,960,15,5,0,-16,4;");
        CHECK.settled(x, NONE, NONE, NONE, NONE);
        x.tick(1);
        CHECK.settled(x, NONE, 30, 270, 160);
        x.tick(50);
        CHECK.settled(x, NONE, 0, 270, 160);
    }

    private static void settleChangesNothing() {
        TapCascade x = Check.laid("v900;s50,1000,1,3,0,0,0;");
        x.tick(1);
        for (int what = 0; what < 4; what++) {
            x.settle(what);
            x.best(what - 1);
            CHECK.stage(x, 0, 7, 1000, 11, 1900, 14, 1);
            CHECK.due("count(2)", x.count(2), 1);
            CHECK.due("count(3)", x.count(3), 0);
            CHECK.due("count(8)", x.count(8), 1);
            CHECK.due("done(0, 0)", x.done(0, 0), NONE);
        }
        CHECK.due("tick(2)", x.tick(2), 1);
    }

    private static void best() {
        TapCascade x = Check.laid("v900;s50,1000,1,1,0,0,0;s50,1100,1,1,0,0,0;");
        // 900 at tap 2 is 990, which at tap 2 is 1089; at tap 3 1035 and at tap 1 1086
        CHECK.due("best(-1)", x.best(-1), 21);
        CHECK.due("best(0)", x.best(0), 1002);
        CHECK.due("best(1)", x.best(1), 1002);
        x.source(1000);
        CHECK.due("best(-1)", x.best(-1), 0);
        CHECK.due("best(0)", x.best(0), 1000);
        CHECK.due("best(1)", x.best(1), 1002);
        // 40 are lost between them: 1000 and 960, by 50 more 1008
        TapCascade lossy = Check.laid("v1000;s50,1000,1,1,0,0,8;s50,1008,1,1,0,50,0;");
        CHECK.due("best(-1)", lossy.best(-1), 0);
        CHECK.due("best(0)", lossy.best(0), 1000);
        CHECK.due("best(1)", lossy.best(1), 1001);
        TapCascade ends = Check.laid("v800;s10,1200,1,1,0,0,0;");
        CHECK.due("best(-1)", ends.best(-1), 360);
        CHECK.due("best(0)", ends.best(0), 1005);
        ends = Check.laid("v1200;s10,800,1,1,0,0,0;");
        CHECK.due("best(-1)", ends.best(-1), 340);
        CHECK.due("best(0)", ends.best(0), 995);
    }

    private static void bestOfSeveral() {
        TapCascade x = Check.laid("v1000;s50,975,1,1,0,0,0;");
        CHECK.due("best(-1)", x.best(-1), 25);
        CHECK.due("best(0)", x.best(0), 999);
        // the first is right at 0; behind it 950 and 1000 are as far from 975
        TapCascade y = Check.laid("v1000;s50,1000,1,1,0,0,0;s50,975,1,1,0,0,0;");
        CHECK.due("best(-1)", y.best(-1), 25);
        CHECK.due("best(0)", y.best(0), 1000);
        CHECK.due("best(1)", y.best(1), 999);
        // 950, then 997 and 1046 at one step up each: 25, 3 and 21
        TapCascade z = Check.laid("v1000;s50,975,1,1,0,0,0;s50,1000,1,1,0,0,0;s50,1025,1,1,0,0,0;");
        CHECK.due("best(-1)", z.best(-1), 49);
        CHECK.due("best(0)", z.best(0), 999);
        CHECK.due("best(1)", z.best(1), 1001);
        CHECK.due("best(2)", z.best(2), 1001);
    }

    private static void bestWithStuck() {
        TapCascade x = Check.laid("v1000;s50,975,1,1,0,0,0;s50,1000,1,1,0,0,0;");
        x.tell(0, 1, 1003);
        x.stick(0, 1);
        // 1150 stays; at tap -3 behind it 977, at tap -2 1035
        CHECK.due("best(-1)", x.best(-1), 175 + 23);
        CHECK.due("best(0)", x.best(0), 1003);
        CHECK.due("best(1)", x.best(1), 997);
        x.stick(1, 1);
        CHECK.due("best(-1)", x.best(-1), 175 + 150);
        CHECK.due("best(-1) is off then", x.count(7), 175 + 150);
        CHECK.due("best(1)", x.best(1), 1000);
    }

    private static void ratio() {
        TapCascade x = Check.laid("s50,1000,1,1,0,0,0;s7,1000,1,1,0,0,0;s50,1000,1,1,0,0,0;s7,1000,1,1,0,0,0;");
        for (int i = 0; i < 4; i++) {
            CHECK.due("ratio(" + i + ", 0)", x.ratio(i, 0), 1);
            CHECK.due("ratio(" + i + ", 1)", x.ratio(i, 1), 1);
        }
        x.tell(0, 1, 1005);
        x.tell(1, 1, 1003);
        x.tell(2, 1, 995);
        x.tell(3, 1, 1003);
        long[][] due = {{5, 4}, {1021, 800}, {3063, 3200}, {3127323, 3200000}};
        for (int i = 0; i < 4; i++) {
            CHECK.due("ratio(" + i + ", 0)", x.ratio(i, 0), due[i][0]);
            CHECK.due("ratio(" + i + ", 1)", x.ratio(i, 1), due[i][1]);
        }
        String seven = "s7,1000,1,1,0,0,0;";
        TapCascade large = Check.laid(seven + seven + seven + seven);
        for (int i = 0; i < 4; i++) {
            large.tell(i, 1, 1003);
        }
        CHECK.due("ratio(3, 0)", large.ratio(3, 0), 1086683238481L);
        CHECK.due("ratio(3, 1)", large.ratio(3, 1), 1000000000000L);
    }

    private static void graded() {
        TapCascade x = new TapCascade();
        CHECK.due("graded(0)", x.graded(0), 1);
        CHECK.due("graded(1)", x.graded(1), 1);
        CHECK.due("graded(2)", x.graded(2), 0);
        x.tell(3, 2, 4);
        CHECK.due("graded(0) of 2 3 5 4", x.graded(0), 0);
        x.tell(3, 2, 5);
        CHECK.due("graded(0) of 2 3 5 5", x.graded(0), 1);
        CHECK.due("graded(1) of 2 3 5 5", x.graded(1), 0);
        TapCascade two = Check.laid("s1,1000,1,1,0,0,0;s1,1000,1,9,0,0,0;");
        CHECK.due("graded(8)", two.graded(8), 1);
        CHECK.due("graded(9)", two.graded(9), 0);
        CHECK.due("graded(9) of one", Check.laid("s1,1000,1,5,0,0,0;").graded(9), 1);
    }

    private static void waits() {
        TapCascade x = new TapCascade();
        x.tell(1, 2, 9);
        int[][] due = {{2, 9, 9, 9}, {2, 9, 10, 11}, {2, 9, 11, 13}};
        for (int g = 0; g < due.length; g++) {
            for (int i = 0; i < 4; i++) {
                CHECK.due("waits(" + i + ", " + g + ") of 2 9 5 6", x.waits(i, g), due[g][i]);
            }
        }
        CHECK.due("waits(0, 9)", x.waits(0, 9), 2);
        CHECK.due("waits(1, 9)", x.waits(1, 9), 11);
        CHECK.due("waits(3, 9)", x.waits(3, 9), 29);
        x.tell(0, 2, 9);
        CHECK.due("waits(3, 9)", x.waits(3, 9), 36);
        CHECK.stage(x, 3, 3, 6);
    }

    private static void countStepsBack() {
        TapCascade x = Check.laid("v900;s50,1000,1,1,0,0,0;");
        x.tick(3);
        CHECK.due("count(3)", x.count(3), 3);
        CHECK.due("count(4)", x.count(4), 0);
        x.tick(47);
        CHECK.due("count(3)", x.count(3), 50);
        CHECK.due("count(4): not of the last 20 alone", x.count(4), 47);
        // the first goes up, then the second down: neither is back
        TapCascade y = Check.laid("v900;s10,910,5,1,0,0,0;s10,880,5,2,0,0,0;");
        CHECK.due("tick(2)", y.tick(2), 2);
        CHECK.step(y, 1, 0, 0, 1);
        CHECK.step(y, 0, 1, 1, 2);
        CHECK.due("count(4)", y.count(4), 0);
        y.tell(0, 1, 1005);
        CHECK.due("tick(1)", y.tick(1), 1);
        CHECK.step(y, 0, 2, 0, 2);
        CHECK.due("count(4)", y.count(4), 1);
    }

    private static void countUnlike() {
        TapCascade x = Check.laid("v1010;s50,1000,1,1,0,0,0;s1,1010,60,1,0,0,0;");
        CHECK.due("count(11)", x.count(11), 0);
        x.tick(1);
        CHECK.due("count(11)", x.count(11), 1);
        x.tick(1);
        CHECK.due("count(11)", x.count(11), 2);
        x.source(1200);
        x.tell(0, 1, 1000);
        CHECK.due("tick(1) of both down", x.tick(1), 2);
        CHECK.due("count(11)", x.count(11), 3);
        x.source(1010);
        x.tell(0, 1, 1000);
        CHECK.due("tick(18)", x.tick(18), 18);
        CHECK.due("count(11): of both down one is told", x.count(11), 3);
        CHECK.due("tick(1)", x.tick(1), 1);
        CHECK.due("count(11)", x.count(11), 3);
        CHECK.due("tick(1)", x.tick(1), 1);
        CHECK.due("count(11): it is no longer told", x.count(11), 2);
        // all four step each way: eight kinds
        String wide = "s1,1000,1,1,0,0,0;";
        TapCascade y = Check.laid("v900;" + wide + wide + wide + wide);
        CHECK.due("tick(1) of four", y.tick(1), 4);
        CHECK.due("count(11)", y.count(11), 4);
        y.stick(0, 1);
        y.source(1100);
        CHECK.due("tick(1) of three", y.tick(1), 3);
        CHECK.due("count(11)", y.count(11), 7);
        y.stick(0, 0);
        CHECK.due("tick(1) of four", y.tick(1), 4);
        CHECK.due("count(11)", y.count(11), 8);
    }

    private static void countAsItStands() {
        TapCascade x = new TapCascade();
        x.source(1100);
        x.stick(2, 1);
        x.tick(1);
        x.write('v');
        // outs 1100, 1084, 1079, 1069; targets 1000, 1000, 990, 985
        int[] due = {4, 1100, 1, 0, 0, 0, 1, 100 + 84 + 89 + 84, 3, 1, 0, 0};
        for (int what = 0; what < due.length; what++) {
            CHECK.due("count(" + what + ")", x.count(what), due[what]);
        }
        for (int i = 0; i < 4; i++) {
            x.stick(i, 1);
        }
        CHECK.due("count(6)", x.count(6), 4);
        CHECK.due("count(10) of stuck ones that want", x.count(10), 1);
        x.source(1010);
        CHECK.due("count(5)", x.count(5), 4);
    }

    private static void wrongNumbers() {
        TapCascade x = new TapCascade();
        int[] far = {Integer.MIN_VALUE, Integer.MAX_VALUE, -1};
        for (int n : far) {
            CHECK.due("settle(" + n + ")", x.settle(n), BAD);
            CHECK.due("ratio(0, " + n + ")", x.ratio(0, n), BAD);
            CHECK.due("graded(" + n + ")", x.graded(n), BAD);
            CHECK.due("waits(0, " + n + ")", x.waits(0, n), BAD);
            CHECK.due("count(" + n + ")", x.count(n), BAD);
        }
        CHECK.due("settle(4)", x.settle(4), BAD);
        CHECK.due("ratio(0, 2)", x.ratio(0, 2), BAD);
        CHECK.due("graded(10)", x.graded(10), BAD);
        CHECK.due("waits(0, 10)", x.waits(0, 10), BAD);
        CHECK.due("count(12)", x.count(12), BAD);
        CHECK.due("ratio(-1, 0)", x.ratio(-1, 0), BAD);
        CHECK.due("waits(-1, 0)", x.waits(-1, 0), BAD);
        for (int i : WRONG_STAGES) {
            CHECK.due("best(" + i + ")", x.best(i), BAD);
            CHECK.due("ratio(" + i + ", 0)", x.ratio(i, 0), BAD);
            CHECK.due("waits(" + i + ", 0)", x.waits(i, 0), BAD);
        }
        TapCascade one = Check.laid("s1,1000,1,1,0,0,0;");
        CHECK.due("best(1) of one", one.best(1), BAD);
        CHECK.due("ratio(1, 0) of one", one.ratio(1, 0), BAD);
        CHECK.due("waits(1, 0) of one", one.waits(1, 0), BAD);
    }
}
