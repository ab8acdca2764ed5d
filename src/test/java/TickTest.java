/** Promises 9, 11 and 12: tick, stage, done. */
final class TickTest {
    private static final Check CHECK = new Check("TickTest");

    public static void main(String[] args) {
        waitsTillItSteps();
        countStartsAnewTheOtherWay();
        countEndsWhenGood();
        bandEdges();
        rulesWhenPowerFlowsBack();
        allStepAtOnce();
        stuckPassesOn();
        passesOverOneThatWantsNothing();
        passesOnAndOn();
        passesOnToOneThatIsCalled();
        passesOnAtTheEndOfTheTap();
        lossesAreCutTowardsNought();
        wrongNumbers();
        atMost9999Ticks();
        lastTwentyAreTold();
        CHECK.end();
    }

    private static void waitsTillItSteps() {
        TapCascade x = Check.laid("v900;s10,1000,5,3,0,0,0;");
        CHECK.stage(x, 0, 11, 1900, 12, 1, 13, 1, 14, 0, 15, 1);
        CHECK.due("tick(1)", x.tick(1), 0);
        CHECK.stage(x, 0, 7, 1000, 14, 1);
        CHECK.due("tick(1)", x.tick(1), 0);
        CHECK.stage(x, 0, 7, 1000, 14, 2);
        CHECK.due("tick(1)", x.tick(1), 1);
        CHECK.stage(x, 0, 7, 1001, 11, 1909, 14, 0);
        CHECK.step(x, 0, 2, 0, 1);
        CHECK.due("tick(13)", x.tick(13), 4);
        CHECK.stage(x, 0, 7, 1005, 11, 1945, 12, 1, 13, 1, 14, 1, 15, 0);
        CHECK.step(x, 0, 14, 0, 1);
        CHECK.step(x, 3, 5, 0, 1);
        CHECK.due("tick(2)", x.tick(2), 0);
        CHECK.stage(x, 0, 7, 1005, 14, 0);
        TapCascade y = Check.laid("v1100;s10,1000,5,1,0,0,0;");
        CHECK.stage(y, 0, 12, 2, 13, 2, 15, 1);
        CHECK.due("tick(50)", y.tick(50), 5);
        CHECK.stage(y, 0, 7, 995, 11, 2045, 12, 2, 13, 2, 15, 0);
        CHECK.step(y, 0, 4, 0, 2);
    }

    private static void countStartsAnewTheOtherWay() {
        TapCascade x = Check.laid("v900;s10,1000,5,3,0,0,0;");
        CHECK.due("tick(2)", x.tick(2), 0);
        x.source(1100);
        CHECK.stage(x, 0, 13, 2, 14, 2);
        CHECK.due("tick(1)", x.tick(1), 0);
        CHECK.stage(x, 0, 14, 1);
        CHECK.due("tick(1)", x.tick(1), 0);
        CHECK.due("tick(1)", x.tick(1), 1);
        CHECK.step(x, 0, 4, 0, 2);
    }

    private static void countEndsWhenGood() {
        TapCascade x = Check.laid("v900;s10,1000,5,3,0,0,0;");
        x.tick(2);
        x.source(1000);
        CHECK.stage(x, 0, 12, 0, 13, 0, 14, 2, 15, 0);
        CHECK.due("tick(1)", x.tick(1), 0);
        CHECK.stage(x, 0, 14, 0);
        x.source(900);
        CHECK.due("tick(2)", x.tick(2), 0);
        CHECK.stage(x, 0, 14, 2);
    }

    private static void bandEdges() {
        TapCascade x = Check.laid("v995;s10,1000,5,3,0,0,0;");
        CHECK.stage(x, 0, 12, 0, 13, 0);
        x.source(994);
        CHECK.stage(x, 0, 12, 1, 13, 1);
        x.source(1005);
        CHECK.stage(x, 0, 12, 0, 13, 0);
        x.source(1006);
        CHECK.stage(x, 0, 12, 2, 13, 2);
    }

    private static void rulesWhenPowerFlowsBack() {
        int[] upWhenBack = {1, 0, 2};
        int[] downWhenBack = {2, 0, 1};
        for (int rule = 0; rule <= 2; rule++) {
            TapCascade x = Check.laid("v900;s10,1000,5,1," + rule + ",-1,0;");
            CHECK.stage(x, 0, 9, 999, 12, 1, 13, upWhenBack[rule], 15, rule == 1 ? 0 : 1);
            CHECK.due("count(10)", x.count(10), rule == 1 ? 1 : 0);
            CHECK.due("tick(1)", x.tick(1), rule == 1 ? 0 : 1);
            CHECK.stage(x, 0, 7, 1000 + (rule == 0 ? 1 : rule == 2 ? -1 : 0), 14, 0);
            CHECK.due("done(0, 2)", x.done(0, 2), rule == 1 ? TapCascade.NONE : upWhenBack[rule]);
            x.source(1200);
            CHECK.stage(x, 0, 12, 2, 13, downWhenBack[rule]);
            x.tell(0, 0, 1000);
            CHECK.stage(x, 0, 9, 1000, 12, 2, 13, 2);
            x.source(800);
            CHECK.stage(x, 0, 12, 1, 13, 1);
        }
        TapCascade y = Check.laid("v900;s10,1000,5,1,2,5,0;s10,1000,5,1,0,-6,0;");
        CHECK.stage(y, 0, 5, 1005, 9, 999, 13, 2);
    }

    private static void allStepAtOnce() {
        TapCascade x = Check.laid("v960;s50,1000,9,1,0,0,0;s50,1000,9,1,0,0,0;");
        CHECK.due("tick(1)", x.tick(1), 2);
        CHECK.stage(x, 0, 7, 1001, 11, 2008);
        CHECK.stage(x, 1, 7, 1001, 10, 2008, 11, 2058, 13, 2);
        CHECK.step(x, 0, 0, 1, 1);
        CHECK.step(x, 1, 0, 0, 1);
        CHECK.due("tick(2)", x.tick(2), 1);
        CHECK.step(x, 0, 1, 1, 2);
        CHECK.due("done(3, 0)", x.done(3, 0), TapCascade.NONE);
    }

    private static void stuckPassesOn() {
        TapCascade x = Check.laid("v900;s10,1000,5,2,0,0,0;s10,1000,5,9,0,0,0;s10,1000,5,9,0,0,0;");
        x.stick(0, 1);
        CHECK.stage(x, 0, 13, 1, 15, 0);
        CHECK.due("tick(1)", x.tick(1), 0);
        CHECK.stage(x, 0, 14, 1);
        CHECK.stage(x, 1, 14, 1);
        CHECK.due("tick(1)", x.tick(1), 1);
        CHECK.step(x, 0, 1, 1, 1);
        CHECK.stage(x, 0, 7, 1000, 14, 0);
        CHECK.stage(x, 1, 7, 1001, 14, 0);
        CHECK.stage(x, 2, 7, 1000, 14, 2);
        CHECK.due("tick(1)", x.tick(1), 0);
        CHECK.stage(x, 0, 14, 1);
        CHECK.stage(x, 1, 14, 1);
        CHECK.stage(x, 2, 14, 3);
    }

    private static void passesOverOneThatWantsNothing() {
        TapCascade x = Check.laid("v900;s10,1000,5,2,0,0,0;s10,900,5,1,0,0,0;s10,800,5,9,0,0,0;");
        x.stick(0, 1);
        CHECK.due("tick(2)", x.tick(2), 1);
        CHECK.step(x, 0, 1, 2, 2);
        CHECK.stage(x, 1, 14, 0);
        TapCascade y = Check.laid("v900;s10,1000,5,1,0,0,0;s10,900,5,1,0,0,0;");
        y.stick(0, 1);
        CHECK.due("none behind wants anything", y.tick(5), 0);
        CHECK.due("the last one has none behind it", stuckLast().tick(50), 0);
    }

    private static TapCascade stuckLast() {
        TapCascade x = Check.laid("v900;s10,900,5,1,0,0,0;s10,1000,5,1,0,0,0;");
        x.stick(1, 1);
        return x;
    }

    private static void passesOnAndOn() {
        TapCascade x = Check.laid("v900;s10,1000,5,2,0,0,0;s10,1000,5,9,0,0,0;s10,1000,5,9,0,0,0;s10,1000,5,9,0,0,0;");
        x.stick(0, 1);
        x.stick(1, 1);
        CHECK.due("tick(2)", x.tick(2), 1);
        CHECK.step(x, 0, 1, 2, 1);
        CHECK.stage(x, 1, 14, 0);
        CHECK.stage(x, 3, 14, 2);
        x.stick(2, 1);
        CHECK.due("tick(2)", x.tick(2), 1);
        CHECK.step(x, 0, 3, 3, 1);
        CHECK.stage(x, 2, 14, 0);
    }

    private static void passesOnToOneThatIsCalled() {
        TapCascade x = Check.laid("v900;s10,1000,5,2,0,0,0;s10,1000,5,2,0,0,0;s10,1000,5,9,0,0,0;");
        x.stick(0, 1);
        CHECK.due("tick(2): the next one is called already", x.tick(2), 1);
        CHECK.step(x, 0, 1, 1, 1);
        CHECK.stage(x, 2, 7, 1000, 14, 2);
    }

    private static void passesOnAtTheEndOfTheTap() {
        TapCascade x = Check.laid("v800;s10,1200,5,1,0,0,0;s10,1200,5,9,0,0,0;");
        x.tell(0, 1, 1004);
        CHECK.due("tick(1)", x.tick(1), 1);
        CHECK.stage(x, 0, 7, 1005, 15, 0);
        CHECK.due("tick(1)", x.tick(1), 1);
        CHECK.step(x, 0, 1, 1, 1);
        TapCascade y = Check.laid("v1200;s10,800,5,1,0,0,0;s10,800,5,9,0,0,0;");
        y.tell(0, 1, 996);
        CHECK.due("tick(2)", y.tick(2), 2);
        CHECK.stage(y, 0, 7, 995, 15, 0);
        CHECK.step(y, 0, 1, 1, 2);
    }

    private static void lossesAreCutTowardsNought() {
        TapCascade x = Check.laid("v1000;s1,1000,9,1,0,0,3;s1,1000,9,1,0,3,9;");
        CHECK.stage(x, 1, 10, 2000);
        x.tell(1, 0, 997);
        CHECK.stage(x, 1, 10, 2000);
        x.tell(1, 0, 996);
        CHECK.stage(x, 1, 10, 2001);
        x.tell(1, 0, 1007);
        CHECK.stage(x, 1, 10, 1998);
        TapCascade y = Check.laid("v999;s3,1000,9,1,0,0,0;");
        y.tell(0, 1, 999);
        // 999 times 997 by 1000 is 996.003
        CHECK.stage(y, 0, 11, 1996);
        y.tell(0, 1, 1001);
        // 999 times 1003 by 1000 is 1001.997
        CHECK.stage(y, 0, 11, 2001);
    }

    private static void wrongNumbers() {
        TapCascade x = new TapCascade();
        for (int n : new int[] {0, -1, 51, Integer.MIN_VALUE, Integer.MAX_VALUE}) {
            CHECK.due("tick(" + n + ")", x.tick(n), TapCascade.BAD);
        }
        CHECK.due("count(2)", x.count(2), 0);
        for (int i : new int[] {-1, 4, Integer.MIN_VALUE, Integer.MAX_VALUE}) {
            CHECK.due("stage(" + i + ", 0)", x.stage(i, 0), TapCascade.BAD);
        }
        for (int what : new int[] {-1, 16, Integer.MIN_VALUE, Integer.MAX_VALUE}) {
            CHECK.due("stage(0, " + what + ")", x.stage(0, what), TapCascade.BAD);
        }
        for (int what : new int[] {-1, 3, Integer.MIN_VALUE, Integer.MAX_VALUE}) {
            CHECK.due("done(0, " + what + ")", x.done(0, what), TapCascade.BAD);
            CHECK.due("done(99, " + what + ")", x.done(99, what), TapCascade.BAD);
        }
        CHECK.due("done(-1, 0)", x.done(-1, 0), TapCascade.BAD);
        CHECK.due("done(MIN, 2)", x.done(Integer.MIN_VALUE, 2), TapCascade.BAD);
        CHECK.due("done(0, 2)", x.done(0, 2), TapCascade.NONE);
        CHECK.due("done(MAX, 2)", x.done(Integer.MAX_VALUE, 2), TapCascade.NONE);
    }

    private static void atMost9999Ticks() {
        TapCascade x = Check.laid("v1010;s50,1000,1,1,0,0,0;");
        for (int k = 0; k < 199; k++) {
            CHECK.due("tick(50)", x.tick(50), 50);
        }
        CHECK.due("tick(50)", x.tick(50), TapCascade.NO);
        CHECK.due("BAD ahead of NO", x.tick(51), TapCascade.BAD);
        CHECK.due("tick(48)", x.tick(48), 48);
        CHECK.due("tick(2)", x.tick(2), TapCascade.NO);
        CHECK.due("tick(1)", x.tick(1), 1);
        CHECK.due("count(2)", x.count(2), 9999);
        CHECK.due("count(3)", x.count(3), 9999);
        CHECK.due("tick(1)", x.tick(1), TapCascade.NO);
        CHECK.step(x, 0, 9998, 0, 2);
        CHECK.settled(x, TapCascade.NONE, 0, 2, 2);
        CHECK.due("undo()", x.undo(), 5);
        CHECK.due("tick(1)", x.tick(1), 1);
        CHECK.due("lay()", x.lay(), 1);
        CHECK.due("tick(1) behind lay()", x.tick(1), 1);
    }

    private static void lastTwentyAreTold() {
        TapCascade x = Check.laid("v1010;s50,1000,1,1,0,0,0;");
        CHECK.due("tick(20)", x.tick(20), 20);
        CHECK.step(x, 19, 0, 0, 2);
        CHECK.due("done(20, 0)", x.done(20, 0), TapCascade.NONE);
        CHECK.due("tick(1)", x.tick(1), 1);
        CHECK.step(x, 19, 1, 0, 1);
        CHECK.step(x, 0, 20, 0, 2);
        CHECK.due("done(20, 0)", x.done(20, 0), TapCascade.NONE);
    }
}
