/** The edges of promises 9, 11 and 12, each in a part of its own: tick, stage, done. */
final class EdgesOfTickTest {
    private static final Check CHECK = new Check("EdgesOfTickTest");
    private static final Twins TWINS = new Twins(CHECK);
    private static final int BAD = TapCascade.BAD, NO = TapCascade.NO, NONE = TapCascade.NONE;
    private static final int MIN = Integer.MIN_VALUE, MAX = Integer.MAX_VALUE;
    private static final String STAGE = "s1,1000,1,1,0,0,0;";
    /** Steps at each tick, down and up in turn: outs 1010 and 959. */
    private static final String SWING = "s50,1000,1,1,0,0,0;";
    private static final String LOW_LINE = "v900;s1,1000,5,1,0,0,0;";
    private static final String HIGH_LINE = "v1100;s1,1000,5,1,0,0,0;";

    public static void main(String[] args) {
        tickTooFewAndTooMany();
        tickUpTo9999();
        tickFrom9949();
        tickBadAheadOfNo();
        tickRefusedAt9999();
        undoAndLayMakeRoomForTicks();
        moreThan9999StepsAreFine();
        mostStepsOfOneCall();
        waitOneToNine();
        countIsMoreThanWait();
        countOfOneThatCanNot();
        wantsTheOtherWay();
        wantsNothing();
        passOnBehindTheLast();
        passOnIsNeverAhead();
        passOnOverThoseThatWantNothing();
        passOnThroughAll();
        passOnByOneThatWasCalled();
        stageNumbers();
        stageWhat();
        bandLeastAndMost();
        flowBelowNought();
        flowOfAllBehind();
        tapAtItsEnds();
        tapAtItsEndsTurned();
        outIsCut();
        lossIsCut();
        lossIsOfTheWayAhead();
        leastAndMostOut();
        doneNumbers();
        doneBadAheadOfNone();
        doneNoneOneTwenty();
        doneFallsOut();
        doneFourFallOutAtOnce();
        askingChangesNothing();
        CHECK.end();
    }

    private static TapCascade late(int ticks) {
        TapCascade x = Check.laid("v1010;" + SWING);
        for (int left = ticks; left > 0; left -= 50) {
            x.tick(Math.min(left, 50));
        }
        return x;
    }

    // ---- promise 9

    private static void tickTooFewAndTooMany() {
        CHECK.of("9, the least and the most ticks of a call");
        TapCascade x = new TapCascade();
        CHECK.due("tick(1)", x.tick(1), 0);
        CHECK.due("count(2)", x.count(2), 1);
        CHECK.due("tick(50)", x.tick(50), 0);
        CHECK.due("count(2)", x.count(2), 51);
        for (int n : new int[] {0, -1, -50, 51, 100, MIN, MAX}) {
            TWINS.refused("tick(" + n + ")", y -> y.tick(n), BAD);
        }
    }

    private static void tickUpTo9999() {
        CHECK.of("9, 9999 ticks and one more");
        TapCascade x = late(9950);
        CHECK.due("count(2)", x.count(2), 9950);
        CHECK.due("tick(50): there would be 10000", x.tick(50), NO);
        CHECK.due("count(2)", x.count(2), 9950);
        CHECK.due("tick(49)", x.tick(49), 49);
        CHECK.due("count(2)", x.count(2), 9999);
        CHECK.due("tick(1)", x.tick(1), NO);
        TapCascade y = late(9998);
        CHECK.due("tick(2): there would be 10000", y.tick(2), NO);
        CHECK.due("tick(1)", y.tick(1), 1);
        CHECK.due("count(2)", y.count(2), 9999);
    }

    private static void tickFrom9949() {
        CHECK.of("9, fifty ticks up to 9999");
        TapCascade x = late(9949);
        CHECK.due("tick(50)", x.tick(50), 50);
        CHECK.due("count(2)", x.count(2), 9999);
        CHECK.step(x, 0, 9998, 0, 2);
    }

    private static void tickBadAheadOfNo() {
        CHECK.of("9, BAD ahead of NO");
        for (int n : new int[] {0, 51, -1, MIN, MAX}) {
            CHECK.due("tick(" + n + ") at 9999", late(9999).tick(n), BAD);
        }
        CHECK.due("tick(50) at 9999", late(9999).tick(50), NO);
    }

    private static void tickRefusedAt9999() {
        CHECK.of("9, refused at 9999");
        TWINS.refusedOn(() -> late(9999), "tick(1)", x -> x.tick(1), NO);
        TWINS.refusedOn(() -> late(9999), "tick(50)", x -> x.tick(50), NO);
        TWINS.refusedOn(() -> late(9960), "tick(40)", x -> x.tick(40), NO);
        TWINS.refusedOn(() -> late(9999), "tick(51)", x -> x.tick(51), BAD);
    }

    private static void undoAndLayMakeRoomForTicks() {
        CHECK.of("9, room behind undo() and lay()");
        TapCascade x = late(9999);
        CHECK.due("undo()", x.undo(), 5);
        CHECK.due("count(2)", x.count(2), 9950);
        CHECK.due("tick(50)", x.tick(50), NO);
        CHECK.due("tick(49)", x.tick(49), 49);
        CHECK.due("lay()", x.lay(), 1);
        CHECK.due("count(2)", x.count(2), 0);
        CHECK.due("tick(50)", x.tick(50), 50);
    }

    private static void moreThan9999StepsAreFine() {
        CHECK.of("9, it is ticks of which there are 9999, not steps");
        TapCascade x = Check.laid("v1010;" + SWING.repeat(2));
        for (int k = 0; k < 100; k++) {
            CHECK.due("tick(50)", x.tick(50), 100);
        }
        CHECK.due("count(2)", x.count(2), 5000);
        CHECK.due("count(3)", x.count(3), 10000);
        CHECK.due("count(4)", x.count(4), 9998);
        CHECK.due("tick(50)", x.tick(50), 100);
    }

    private static void mostStepsOfOneCall() {
        CHECK.of("9, no step, and four at each of fifty ticks");
        CHECK.due("tick(50) of a quiet line", new TapCascade().tick(50), 0);
        CHECK.due("tick(50)", Check.laid("v1010;" + SWING.repeat(4)).tick(50), 200);
    }

    private static void waitOneToNine() {
        for (int wait = 1; wait <= 9; wait++) {
            CHECK.of("9, the wait of " + wait);
            TapCascade x = Check.laid("v900;s10,1000,5," + wait + ",0,0,0;");
            for (int k = 1; k < wait; k++) {
                CHECK.due("tick(1)", x.tick(1), 0);
                CHECK.stage(x, 0, 7, 1000, 14, k);
            }
            CHECK.due("tick(1)", x.tick(1), 1);
            CHECK.stage(x, 0, 7, 1001, 14, 0);
            CHECK.step(x, 0, wait - 1, 0, 1);
        }
    }

    private static void countIsMoreThanWait() {
        CHECK.of("9, a count of more than the wait, as much, less");
        for (int wait = 1; wait <= 9; wait++) {
            TapCascade x = Check.laid("v900;s10,1000,5,9,0,0,0;");
            x.tick(5);
            x.tell(0, 2, wait);
            CHECK.stage(x, 0, 14, 5);
            CHECK.due("tick(1) by a wait of " + wait, x.tick(1), wait <= 6 ? 1 : 0);
            CHECK.stage(x, 0, 14, wait <= 6 ? 0 : 6);
        }
    }

    private static void countOfOneThatCanNot() {
        CHECK.of("9, the count of one that is called and can not");
        TapCascade stuck = Check.laid("v900;s10,1000,5,3,0,0,0;");
        stuck.stick(0, 1);
        TapCascade atTheEnd = Check.laid("v900;s1,1000,5,3,0,0,0;");
        atTheEnd.tell(0, 1, 1005);
        for (int k = 1; k <= 7; k++) {
            CHECK.due("tick(1)", stuck.tick(1), 0);
            CHECK.stage(stuck, 0, 7, 1000, 14, k % 3);
            CHECK.due("tick(1)", atTheEnd.tick(1), 0);
            CHECK.stage(atTheEnd, 0, 7, 1005, 14, k % 3);
        }
    }

    private static void wantsTheOtherWay() {
        CHECK.of("9, a count begins anew at 1 the other way");
        TapCascade x = Check.laid("v900;s10,1000,5,9,0,0,0;");
        x.tick(8);
        CHECK.stage(x, 0, 14, 8);
        x.source(1100);
        CHECK.due("tick(1)", x.tick(1), 0);
        CHECK.stage(x, 0, 14, 1);
        x.source(900);
        CHECK.due("tick(1)", x.tick(1), 0);
        CHECK.stage(x, 0, 14, 1);
        // a wait of one is over all the same
        x.source(1100);
        x.tell(0, 2, 1);
        CHECK.due("tick(1)", x.tick(1), 1);
        CHECK.step(x, 0, 10, 0, 2);
    }

    private static void wantsNothing() {
        CHECK.of("9, a count ends, if nothing is wanted");
        TapCascade x = Check.laid("v900;s10,1000,5,9,0,0,0;");
        x.tick(8);
        x.source(1000);
        CHECK.due("tick(1)", x.tick(1), 0);
        CHECK.stage(x, 0, 14, 0);
        x.source(900);
        CHECK.due("tick(8)", x.tick(8), 0);
        CHECK.due("tick(1)", x.tick(1), 1);
        // locked by the power that flows back: low, but nothing is wanted
        TapCascade y = Check.laid("v900;s10,1000,5,9,1,0,0;");
        y.tick(8);
        y.tell(0, 0, 999);
        CHECK.stage(y, 0, 12, 1, 13, 0, 14, 8);
        CHECK.due("tick(1)", y.tick(1), 0);
        CHECK.stage(y, 0, 14, 0);
    }

    private static void passOnBehindTheLast() {
        CHECK.of("9, the last one has none to pass it on to");
        for (int size = 1; size <= 4; size++) {
            TapCascade x = Check.laid("v900;" + "s1,900,50,1,0,0,0;".repeat(size - 1) + "s1,1000,5,1,0,0,0;");
            x.stick(size - 1, 1);
            CHECK.stage(x, size - 1, 13, 1, 15, 0);
            CHECK.due("tick(50) of " + size, x.tick(50), 0);
        }
    }

    private static void passOnIsNeverAhead() {
        CHECK.of("9, none ahead is called");
        TapCascade x = Check.laid("v900;s10,1000,5,9,0,0,0;s10,1000,5,1,0,0,0;");
        x.stick(1, 1);
        CHECK.due("tick(8)", x.tick(8), 0);
        CHECK.stage(x, 0, 14, 8);
        CHECK.stage(x, 1, 14, 0);
        CHECK.due("tick(1)", x.tick(1), 1);
        CHECK.step(x, 0, 8, 0, 1);
    }

    private static void passOnOverThoseThatWantNothing() {
        CHECK.of("9, over those that want nothing to the next that wants something");
        String good = "s10,900,5,1,0,0,0;";
        TapCascade x = Check.laid("v900;s10,1000,5,1,0,0,0;" + good + good + "s10,800,5,9,0,0,0;");
        x.stick(0, 1);
        CHECK.due("tick(1): the last one, the other way", x.tick(1), 1);
        CHECK.step(x, 0, 0, 3, 2);
        TapCascade y = Check.laid("v900;s10,1000,5,1,0,0,0;" + good + "s10,800,5,9,0,0,0;s10,1000,5,9,0,0,0;");
        y.stick(0, 1);
        CHECK.due("tick(1): not the one behind the next", y.tick(1), 1);
        CHECK.step(y, 0, 0, 2, 2);
        TapCascade none = Check.laid("v900;s10,1000,5,1,0,0,0;" + good.repeat(3));
        none.stick(0, 1);
        CHECK.due("tick(50): none wants anything", none.tick(50), 0);
    }

    private static void passOnThroughAll() {
        CHECK.of("9, from the first through all to the last");
        String slow = "s10,1000,5,9,0,0,0;";
        TapCascade x = Check.laid("v900;s10,1000,5,1,0,0,0;" + slow.repeat(3));
        for (int i = 0; i < 3; i++) {
            x.stick(i, 1);
        }
        CHECK.due("tick(1)", x.tick(1), 1);
        CHECK.step(x, 0, 0, 3, 1);
        for (int i = 0; i < 4; i++) {
            CHECK.stage(x, i, 14, 0);
        }
        x.stick(3, 1);
        CHECK.due("tick(1) of four that are stuck", x.tick(1), 0);
        for (int i = 0; i < 4; i++) {
            CHECK.stage(x, i, 14, 0);
        }
        x.stick(0, 0);
        CHECK.due("tick(1): the first can, none other is called", x.tick(1), 1);
        CHECK.step(x, 0, 2, 0, 1);
        for (int i = 1; i < 4; i++) {
            CHECK.stage(x, i, 14, 1);
        }
    }

    private static void passOnByOneThatWasCalled() {
        CHECK.of("9, one that is called already passes it on, too");
        TapCascade x = Check.laid("v900;s10,1000,5,1,0,0,0;s10,1000,5,1,0,0,0;s10,1000,5,9,0,0,0;s10,1000,5,9,0,0,0;");
        x.stick(0, 1);
        x.stick(1, 1);
        CHECK.due("tick(1)", x.tick(1), 1);
        CHECK.step(x, 0, 0, 2, 1);
        CHECK.stage(x, 3, 7, 1000, 14, 1);
    }

    // ---- promise 11

    private static void stageNumbers() {
        CHECK.of("11, stages such as there are");
        for (int size = 1; size <= 4; size++) {
            String text = STAGE.repeat(size);
            TapCascade x = Check.laid(text);
            for (int what = 0; what < 16; what++) {
                CHECK.holds("stage of the first", x.stage(0, what) >= 0);
                CHECK.holds("stage of the last", x.stage(size - 1, what) >= 0);
                for (int i : new int[] {-1, size, size + 1, MIN, MAX}) {
                    CHECK.due("stage(" + i + ", " + what + ") of " + size, x.stage(i, what), BAD);
                }
            }
        }
    }

    private static void stageWhat() {
        CHECK.of("11, what is asked");
        int[] first = {10, 1000, 12, 2, 0, 1020, 8, 1000, 0, 1041, 2010, 2010, 0, 0, 0, 0};
        for (int what = 0; what < first.length; what++) {
            CHECK.stage(new TapCascade(), 0, what, first[what]);
        }
        for (int what : new int[] {-1, 16, 17, MIN, MAX}) {
            TWINS.refused("stage(0, " + what + ")", x -> x.stage(0, what), BAD);
            TWINS.refused("stage(2, " + what + ")", x -> x.stage(2, what), BAD);
        }
    }

    private static void bandLeastAndMost() {
        for (int band : new int[] {1, 2, 98, 99}) {
            CHECK.of("11, the ends of a band of " + band);
            TapCascade x = Check.laid("s1,1000," + band + ",1,0,0,0;");
            int[][] due = {{1000 - band - 1, 1}, {1000 - band, 0}, {1000 + band, 0}, {1000 + band + 1, 2}};
            for (int[] d : due) {
                x.source(d[0]);
                CHECK.stage(x, 0, 11, 1000 + d[0], 12, d[1], 13, d[1], 15, d[1] == 0 ? 0 : 1);
                CHECK.due("count(5)", x.count(5), d[1] == 0 ? 1 : 0);
                CHECK.due("count(10)", x.count(10), d[1] == 0 ? 1 : 0);
            }
        }
    }

    private static void flowBelowNought() {
        int[][] wantsLow = {{1, 1, 1}, {0, 1, 1}, {2, 1, 1}};
        int[][] wantsHigh = {{2, 2, 2}, {0, 2, 2}, {1, 2, 2}};
        for (int rule = 0; rule <= 2; rule++) {
            for (int load = -1; load <= 1; load++) {
                CHECK.of("11, rule " + rule + " by a flow of " + load);
                TapCascade x = Check.laid("v900;s10,1000,5,1," + rule + "," + load + ",0;");
                CHECK.stage(x, 0, 9, 1000 + load, 12, 1, 13, wantsLow[rule][load + 1]);
                CHECK.stage(x, 0, 15, wantsLow[rule][load + 1] == 0 ? 0 : 1);
                x.source(1100);
                CHECK.stage(x, 0, 12, 2, 13, wantsHigh[rule][load + 1]);
                x.source(1000);
                CHECK.stage(x, 0, 12, 0, 13, 0, 15, 0);
            }
        }
    }

    private static void flowOfAllBehind() {
        CHECK.of("11, flow is of it and of all behind it");
        for (int load : new int[] {-50, 50}) {
            TapCascade x = Check.laid(("s1,1000,1,1,0," + load + ",0;").repeat(4));
            for (int i = 0; i < 4; i++) {
                CHECK.stage(x, i, 9, 1000 + load * (4 - i));
            }
        }
        // of its own it has more than 0, but with those behind it -1, and the other way round 0
        TapCascade back = Check.laid("v900;s10,1000,5,1,1,50,0;s10,1000,5,1,1,-50,0;s10,1000,5,1,1,-1,0;");
        CHECK.stage(back, 0, 9, 999, 13, 0);
        TapCascade on = Check.laid("v900;s10,1000,5,1,1,-50,0;s10,1000,5,1,1,49,0;s10,1000,5,1,1,1,0;");
        CHECK.stage(on, 0, 9, 1000, 13, 1);
        // the flow ahead of it is not its own
        CHECK.stage(Check.laid("s1,1000,1,1,0,-50,0;s1,1000,1,1,0,7,0;"), 1, 9, 1007);
    }

    private static void tapAtItsEnds() {
        CHECK.of("11, taps 4 and 5, -4 and -5");
        int[][] low = {{995, 1}, {996, 1}, {1004, 1}, {1005, 0}};
        int[][] high = {{1005, 1}, {1004, 1}, {996, 1}, {995, 0}};
        TapCascade x = Check.laid(LOW_LINE);
        for (int[] d : low) {
            x.tell(0, 1, d[0]);
            CHECK.stage(x, 0, 7, d[0], 13, 1, 15, d[1]);
            CHECK.due("count(10)", x.count(10), 1 - d[1]);
        }
        CHECK.due("tick(50) at 5", x.tick(50), 0);
        CHECK.stage(x, 0, 7, 1005);
        x.tell(0, 1, 1004);
        CHECK.due("tick(50) at 4", x.tick(50), 1);
        CHECK.stage(x, 0, 7, 1005);
        TapCascade y = Check.laid(HIGH_LINE);
        for (int[] d : high) {
            y.tell(0, 1, d[0]);
            CHECK.stage(y, 0, 7, d[0], 13, 2, 15, d[1]);
            CHECK.due("count(10)", y.count(10), 1 - d[1]);
        }
        CHECK.due("tick(50) at -5", y.tick(50), 0);
        y.tell(0, 1, 996);
        CHECK.due("tick(50) at -4", y.tick(50), 1);
        CHECK.stage(y, 0, 7, 995);
        CHECK.due("tick(50) from 0 to 5", Check.laid(LOW_LINE).tick(50), 5);
        CHECK.due("tick(50) from 0 to -5", Check.laid(HIGH_LINE).tick(50), 5);
    }

    private static void tapAtItsEndsTurned() {
        CHECK.of("11, the ends of a tap by power that flows back");
        TapCascade x = Check.laid("v900;s1,1000,5,1,2,-1,0;");
        int[][] due = {{1005, 1}, {996, 1}, {995, 0}};
        for (int[] d : due) {
            x.tell(0, 1, d[0]);
            CHECK.stage(x, 0, 12, 1, 13, 2, 15, d[1]);
        }
        x.stick(0, 1);
        x.tell(0, 1, 1000);
        CHECK.stage(x, 0, 13, 2, 15, 0);
    }

    private static void outIsCut() {
        CHECK.of("11, OUT is cut");
        int[][] due = {{1000, 1001, 1001}, {999, 1001, 999}, {1001, 1001, 1002}, {1000, 999, 999}, {999, 999, 998},
            {1001, 999, 999}};
        // 1000 by 1.001 is whole, 999.999, 1002.001, 999 whole, 998.001, 999.999
        for (int[] d : due) {
            TapCascade x = Check.laid("v" + d[0] + ";" + STAGE);
            x.tell(0, 1, d[1]);
            CHECK.stage(x, 0, 10, 1000 + d[0], 11, 1000 + d[2]);
        }
    }

    private static void lossIsCut() {
        CHECK.of("11, what is lost is cut towards 0");
        int[][] due = {{0, 0}, {1, 0}, {9, 0}, {10, 1}, {19, 1}, {20, 2}, {-1, 0}, {-9, 0}, {-10, -1}, {-19, -1}, {-20, -2}};
        for (int[] d : due) {
            TapCascade x = Check.laid("v1000;s1,1000,1,1,0,0,1;s1,1000,1,1,0," + d[0] + ",9;");
            CHECK.stage(x, 1, 10, 2000 - d[1]);
        }
        CHECK.of("11, the least and the most way");
        CHECK.stage(Check.laid("v1000;s1,1000,1,1,0,0,0;s1,1000,1,1,0,50,9;"), 1, 10, 2000);
        CHECK.stage(Check.laid("v1000;s1,1000,1,1,0,0,9;s1,1000,1,1,0,50,0;"), 1, 10, 1955);
        CHECK.stage(Check.laid("v1000;s1,1000,1,1,0,0,9;s1,1000,1,1,0,-50,0;"), 1, 10, 2045);
    }

    private static void lossIsOfTheWayAhead() {
        CHECK.of("11, what is lost is by the way of the one ahead and the flow of the one behind");
        TapCascade x = Check.laid("v1000;s1,1000,1,1,0,50,2;s1,1000,1,1,0,30,7;s1,1000,1,1,0,20,9;");
        // 2 times 50 by 10, then 7 times 20 by 10
        CHECK.stage(x, 0, 10, 2000, 11, 2000);
        CHECK.stage(x, 1, 10, 1990, 11, 1990);
        CHECK.stage(x, 2, 10, 1976, 11, 1976);
    }

    private static void leastAndMostOut() {
        CHECK.of("11, the least OUT");
        TapCascade least = Check.laid("v800;" + "s50,800,1,1,0,50,9;".repeat(4));
        int[][] low = {{800, 600}, {465, 348}, {258, 193}, {148, 111}};
        for (int i = 0; i < 4; i++) {
            least.tell(i, 1, 995);
        }
        for (int i = 0; i < 4; i++) {
            CHECK.stage(least, i, 10, 1000 + low[i][0], 11, 1000 + low[i][1], 12, 1, 13, 1, 15, 1);
        }
        CHECK.due("count(7)", least.count(7), 200 + 452 + 607 + 689);
        CHECK.of("11, the most OUT");
        TapCascade most = Check.laid("v1200;" + "s50,1200,1,1,0,-50,9;".repeat(4));
        int[][] high = {{1200, 1500}, {1635, 2043}, {2133, 2666}, {2711, 3388}};
        for (int i = 0; i < 4; i++) {
            most.tell(i, 1, 1005);
        }
        for (int i = 0; i < 4; i++) {
            CHECK.stage(most, i, 10, 1000 + high[i][0], 11, 1000 + high[i][1], 12, 2, 13, 2, 15, 1);
        }
        CHECK.due("count(7)", most.count(7), 300 + 843 + 1466 + 2188);
    }

    // ---- promise 12

    private static void doneNumbers() {
        CHECK.of("12, the least k, what is asked");
        for (int k : new int[] {-1, -20, MIN}) {
            for (int what = 0; what < 3; what++) {
                int w = what;
                TWINS.refused("done(" + k + ", " + what + ")", x -> x.done(k, w), BAD);
            }
        }
        for (int what : new int[] {-1, 3, MIN, MAX}) {
            TWINS.refused("done(0, " + what + ")", x -> x.done(0, what), BAD);
        }
        CHECK.step(late(1), 0, 0, 0, 2);
    }

    private static void doneBadAheadOfNone() {
        CHECK.of("12, BAD ahead of NONE");
        for (int k : new int[] {0, 19, 20, 21, MAX}) {
            CHECK.due("done(" + k + ", -1)", new TapCascade().done(k, -1), BAD);
            CHECK.due("done(" + k + ", 3)", new TapCascade().done(k, 3), BAD);
            CHECK.due("done(" + k + ", 0)", new TapCascade().done(k, 0), NONE);
            CHECK.due("done(" + k + ", 2)", new TapCascade().done(k, 2), NONE);
        }
    }

    private static void doneNoneOneTwenty() {
        for (int steps = 0; steps <= 22; steps++) {
            CHECK.of("12, of " + steps + " steps");
            TapCascade x = late(steps);
            int told = Math.min(steps, 20);
            CHECK.due("count(3)", x.count(3), steps);
            for (int k = 0; k < told; k++) {
                CHECK.step(x, k, steps - 1 - k, 0, (steps - k) % 2 == 1 ? 2 : 1);
            }
            for (int k : new int[] {told, told + 1, 20, 21, MAX}) {
                CHECK.step(x, k, NONE, NONE, NONE);
            }
        }
    }

    private static void doneFallsOut() {
        CHECK.of("12, the one that falls out");
        TapCascade x = late(20);
        CHECK.step(x, 19, 0, 0, 2);
        x.tick(1);
        CHECK.step(x, 19, 1, 0, 1);
        CHECK.step(x, 20, NONE, NONE, NONE);
        x.undo();
        CHECK.step(x, 19, 0, 0, 2);
        CHECK.step(late(9999), 0, 9998, 0, 2);
        CHECK.step(late(9999), 19, 9979, 0, 1);
    }

    private static void doneFourFallOutAtOnce() {
        CHECK.of("12, four of one tick");
        TapCascade x = Check.laid("v1010;" + SWING.repeat(4));
        CHECK.due("tick(5)", x.tick(5), 20);
        for (int k = 0; k < 20; k++) {
            CHECK.step(x, k, 4 - k / 4, 3 - k % 4, k / 4 % 2 == 0 ? 2 : 1);
        }
        CHECK.due("tick(1)", x.tick(1), 4);
        for (int k = 0; k < 20; k++) {
            CHECK.step(x, k, 5 - k / 4, 3 - k % 4, k / 4 % 2 == 0 ? 1 : 2);
        }
        CHECK.step(x, 20, NONE, NONE, NONE);
    }

    private static void askingChangesNothing() {
        CHECK.of("11 and 12, asking changes nothing");
        TWINS.changesNothing(Twins::busy, "stage", x -> x.stage(0, 11) + x.stage(1, 13) + x.stage(2, 15));
        TWINS.changesNothing(Twins::busy, "done", x -> x.done(0, 0) + x.done(19, 1) + x.done(20, 2));
        TWINS.changesNothing(TapCascade::new, "done that is NONE", x -> x.done(0, 0));
    }
}
